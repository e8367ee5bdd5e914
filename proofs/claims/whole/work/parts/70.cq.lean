/-! the class: what it answers -/
theorem sw_c (x : Int32) (n : Nat) (hn : n < 1000) : (x.toInt < 0 ∨ (n : Int) < x.toInt) ∨ ∃ c, c ≤ n ∧ x = nI c := by
  by_cases h : 0 ≤ x.toInt ∧ x.toInt ≤ n
  · refine Or.inr ⟨x.toInt.toNat, by omega, ?_⟩
    apply Int32.toInt_inj.mp
    rw [nI_toInt (by omega)]
    omega
  · exact Or.inl (by omega)
/-- a number as one of n -/
def vix (p : Int32) (n : Nat) : Option Nat := if 0 ≤ p.toInt ∧ p.toInt < n then some p.toInt.toNat else none
theorem vix_some {p : Int32} {n j : Nat} (hn : n < 2000) (h : vix p n = some j) : p = nI j ∧ j < n := by
  unfold vix at h
  split at h
  next hc =>
    cases h
    refine ⟨?_, by omega⟩
    apply Int32.toInt_inj.mp
    rw [nI_toInt (by omega)]
    omega
  · cases h
theorem vix_nI {j n : Nat} (hj : j < n) (hn : n < 2000) : vix (nI j) n = some j := by
  unfold vix
  rw [nI_toInt (by omega), if_pos (by omega)]
  simp
theorem vixC {i : Int32} {n : Nat} (hn : n < 2000) : (if 0 ≤ i ∧ i < nI n then (1 : Int32) else 0) = 0 ↔ vix i n = none := by
  unfold vix
  have e : (0 ≤ i ∧ i < nI n) ↔ (0 ≤ i.toInt ∧ i.toInt < (n : Int)) := by
    rw [Int32.le_iff_toInt_le, Int32.lt_iff_toInt_lt, nI_toInt (by omega)]
    exact Iff.rfl
  by_cases h : 0 ≤ i.toInt ∧ i.toInt < (n : Int)
  · rw [if_pos (e.mpr h), if_pos h]; simp
  · rw [if_neg (fun z => h (e.mp z)), if_neg h]; simp
theorem vixM {i : Int32} {n : Nat} (hn : n < 2000) : (if 0 ≤ i ∧ i ≤ nI n - 1 then (1 : Int32) else 0) = 0 ↔ vix i n = none := by
  unfold vix
  have e0 : (nI n - 1).toInt = (n : Int) - 1 := by
    rw [Int32.toInt_sub, nI_toInt (by omega), show (1 : Int32).toInt = 1 from rfl]
    apply Int.bmod_eq_of_le <;> omega
  have e : (0 ≤ i ∧ i ≤ nI n - 1) ↔ (0 ≤ i.toInt ∧ i.toInt < (n : Int)) := by
    rw [Int32.le_iff_toInt_le, Int32.le_iff_toInt_le, e0, show (0 : Int32).toInt = 0 from rfl]
    omega
  by_cases h : 0 ≤ i.toInt ∧ i.toInt < (n : Int)
  · rw [if_pos (e.mpr h), if_pos h]; simp
  · rw [if_neg (fun z => h (e.mp z)), if_neg h]; simp
abbrev aw (K : Nat → Nat) : Nat → Nat := fun l => K (20 + l)
abbrev ai : Nat → Nat := fun l => l
theorem WL0 {K : Nat → Nat} (hW : WF K) : WL K (aw K) ai (K 39) := ⟨hW.2.2.2.1, fun l hl => ⟨(hW.2.2.2.2.2.2.2.1 l hl).1, hl⟩⟩
/-- the class holds K, its desk is d -/
def IC (mem : pm_M) (d : Nat) (K : Nat → Nat) : Prop :=
  mem.2.2 10008908 0 6 = some d ∧ deskR mem d K ∧ routR mem K ∧ gapR mem (gps K) ∧
  (∀ l, l < K 39 → mem.1 20016210 0 l = nI (gla K l).length ∧ mem.1 20016211 0 l = nI (gsm K (gla K l)) ∧ mem.1 20016209 0 l = nI (K (853 + l)) ∧ ∀ p, p < 12 → mem.1 20012608 l p = nI (ch K l p (K 40))) ∧
  (∀ a b, a < K 37 → b < K 37 → mem.1 20012607 a b = nI (K (709 + 12 * a + b))) ∧ acR mem 0 K (aw K) ai (K 39)
section CQ
variable {mem : pm_M} {d : Nat} {K : Nat → Nat}
def sumRow (T n : Nat) (mem : pm_M) (i : Nat) (f : Nat → Nat) : Prop := ∀ k, k < n → mem.1 T i k = nI (f k)
set_option maxRecDepth 100000 in
theorem sp_sumOf_bought {i n : Nat} {f : Nat → Nat} (hf : ∀ k, k < n → mem.1 20004009 i k = nI (f k)) (hn : n ≤ 4) : Cd yX8_sumOf cX8_sumOf 4 (some .int) 0 0 [pR 20004009 i, pI (nI n)] mem (some (pI (nI (sm f n)))) mem := by
  have lp : ∀ j k, k + j = n → PR cX8_sumOf RX8 4 0 0 4 [some (pR 20004009 i), some (pI (nI n)), some (pI (nI (sm f k))), some (pI (nI k))] [] mem (pm_RX cX8_sumOf (some .int) (fun r' m' => r' = some (pI (nI (sm f n))) ∧ m' = mem)) := by
    intro j
    induction j with
    | zero =>
      intro k hj
      have e : n = k := by omega
      subst e
      refine pr_iload_n 5 dX8_sumOf_4 rfl rfl rfl ?_
      refine pr_iload_n 6 dX8_sumOf_5 rfl rfl rfl ?_
      refine pr_icmp_ge 27 9 dX8_sumOf_6 rfl rfl (fun c_6 => ?_) (fun c_6 => absurd (Int32.le_refl _) (c_6))
      refine pr_iload_n 28 dX8_sumOf_27 rfl rfl rfl ?_
      refine pr_ireturn dX8_sumOf_28 rfl ?_
      exact ⟨rfl, rfl⟩
    | succ j ih =>
      intro k hj
      refine pr_iload_n 5 dX8_sumOf_4 rfl rfl rfl ?_
      refine pr_iload_n 6 dX8_sumOf_5 rfl rfl rfl ?_
      refine pr_icmp_ge 27 9 dX8_sumOf_6 rfl rfl (fun c_6 => absurd (c_6) (nI_ge (by omega) (by omega))) (fun c_6 => ?_)
      refine pr_iload_n 10 dX8_sumOf_9 rfl rfl rfl ?_
      refine pr_aload_n 11 dX8_sumOf_10 rfl rfl rfl ?_
      refine pr_alen 12 dX8_sumOf_11 rfl rfl rfl ?_
      refine pr_icmp_ge 27 15 dX8_sumOf_12 rfl rfl (fun c_12 => absurd (c_12) (nI_ge (by omega) (by omega))) (fun c_12 => ?_)
      refine pr_iload_n 16 dX8_sumOf_15 rfl rfl rfl ?_
      refine pr_aload_n 17 dX8_sumOf_16 rfl rfl rfl ?_
      refine pr_iload_n 18 dX8_sumOf_17 rfl rfl rfl ?_
      refine pr_iaload k 19 dX8_sumOf_18 rfl rfl rfl (by omega) rfl ?_
      rw [hf k (by omega)]
      refine pr_iadd 20 dX8_sumOf_19 rfl ?_
      rw [nI_add]
      refine pr_istore_n 21 dX8_sumOf_20 rfl (pm_st_2 rfl rfl) rfl ?_
      refine pr_iinc 24 dX8_sumOf_21 rfl (by first | exact pm_inc _ | rfl) (pm_st_3 rfl rfl) rfl ?_
      refine pr_goto 4 dX8_sumOf_24 rfl ?_
      exact ih (k + 1) (by omega)
  refine Cl.of (own := RX8) rfl rfl (Nat.le_of_ble_eq_true rfl) rfl ?_; show PR _ _ _ _ _ _ [some _, some _, none, none] _ _ _
  refine pr_iconst (0) 1 dX8_sumOf_0 (by decide) rfl ?_
  refine pr_istore_n 2 dX8_sumOf_1 rfl (pm_st_2 rfl rfl) rfl ?_
  refine pr_iconst (0) 3 dX8_sumOf_2 (by decide) rfl ?_
  refine pr_istore_n 4 dX8_sumOf_3 rfl (pm_st_3 rfl rfl) rfl ?_
  exact lp n 0 (by omega)
set_option maxRecDepth 100000 in
theorem sp_sumOf_total {i n : Nat} {f : Nat → Nat} (hf : ∀ k, k < n → mem.1 20016095 i k = nI (f k)) (hn : n ≤ 16) : Cd yX8_sumOf cX8_sumOf 4 (some .int) 0 0 [pR 20016095 i, pI (nI n)] mem (some (pI (nI (sm f n)))) mem := by
  have lp : ∀ j k, k + j = n → PR cX8_sumOf RX8 4 0 0 4 [some (pR 20016095 i), some (pI (nI n)), some (pI (nI (sm f k))), some (pI (nI k))] [] mem (pm_RX cX8_sumOf (some .int) (fun r' m' => r' = some (pI (nI (sm f n))) ∧ m' = mem)) := by
    intro j
    induction j with
    | zero =>
      intro k hj
      have e : n = k := by omega
      subst e
      refine pr_iload_n 5 dX8_sumOf_4 rfl rfl rfl ?_
      refine pr_iload_n 6 dX8_sumOf_5 rfl rfl rfl ?_
      refine pr_icmp_ge 27 9 dX8_sumOf_6 rfl rfl (fun c_6 => ?_) (fun c_6 => absurd (Int32.le_refl _) (c_6))
      refine pr_iload_n 28 dX8_sumOf_27 rfl rfl rfl ?_
      refine pr_ireturn dX8_sumOf_28 rfl ?_
      exact ⟨rfl, rfl⟩
    | succ j ih =>
      intro k hj
      refine pr_iload_n 5 dX8_sumOf_4 rfl rfl rfl ?_
      refine pr_iload_n 6 dX8_sumOf_5 rfl rfl rfl ?_
      refine pr_icmp_ge 27 9 dX8_sumOf_6 rfl rfl (fun c_6 => absurd (c_6) (nI_ge (by omega) (by omega))) (fun c_6 => ?_)
      refine pr_iload_n 10 dX8_sumOf_9 rfl rfl rfl ?_
      refine pr_aload_n 11 dX8_sumOf_10 rfl rfl rfl ?_
      refine pr_alen 12 dX8_sumOf_11 rfl rfl rfl ?_
      refine pr_icmp_ge 27 15 dX8_sumOf_12 rfl rfl (fun c_12 => absurd (c_12) (nI_ge (by omega) (by omega))) (fun c_12 => ?_)
      refine pr_iload_n 16 dX8_sumOf_15 rfl rfl rfl ?_
      refine pr_aload_n 17 dX8_sumOf_16 rfl rfl rfl ?_
      refine pr_iload_n 18 dX8_sumOf_17 rfl rfl rfl ?_
      refine pr_iaload k 19 dX8_sumOf_18 rfl rfl rfl (by omega) rfl ?_
      rw [hf k (by omega)]
      refine pr_iadd 20 dX8_sumOf_19 rfl ?_
      rw [nI_add]
      refine pr_istore_n 21 dX8_sumOf_20 rfl (pm_st_2 rfl rfl) rfl ?_
      refine pr_iinc 24 dX8_sumOf_21 rfl (by first | exact pm_inc _ | rfl) (pm_st_3 rfl rfl) rfl ?_
      refine pr_goto 4 dX8_sumOf_24 rfl ?_
      exact ih (k + 1) (by omega)
  refine Cl.of (own := RX8) rfl rfl (Nat.le_of_ble_eq_true rfl) rfl ?_; show PR _ _ _ _ _ _ [some _, some _, none, none] _ _ _
  refine pr_iconst (0) 1 dX8_sumOf_0 (by decide) rfl ?_
  refine pr_istore_n 2 dX8_sumOf_1 rfl (pm_st_2 rfl rfl) rfl ?_
  refine pr_iconst (0) 3 dX8_sumOf_2 (by decide) rfl ?_
  refine pr_istore_n 4 dX8_sumOf_3 rfl (pm_st_3 rfl rfl) rfl ?_
  exact lp n 0 (by omega)
set_option maxRecDepth 100000 in
theorem sp_sumOver_long (h : IC mem d K) (hW : WF K) {k : Nat} (hk : k < 4) {f : Nat → Nat} (hf : ∀ t, t < K 40 → mem.1 20016201 0 t = nI (f t)) : Cd yX8_sumOverTrips cX8_sumOverTrips 5 (some .int) 0 0 [pR 10008908 0, pI (nI k), pR 20016201 0] mem (some (pI (nI (sm (fun t => if K (101 + 6 * t) = k then f t else 0) (K 40))))) mem := by
  have h16 := hW.2.2.2.2.1
  have h4 := hW.2.2.1
  obtain ⟨h1, hd, -⟩ := h
  have lp : ∀ j t, t + j = K 40 → PR cX8_sumOverTrips RX8 5 0 0 5 [some (pR 10008908 0), some (pI (nI k)), some (pR 20016201 0), some (pI (nI (sm (fun t => if K (101 + 6 * t) = k then f t else 0) t))), some (pI (nI t))] [] mem (pm_RX cX8_sumOverTrips (some .int) (fun r' m' => r' = some (pI (nI (sm (fun t => if K (101 + 6 * t) = k then f t else 0) (K 40)))) ∧ m' = mem)) := by
    intro j
    induction j with
    | zero =>
      intro t hj
      have e : t = K 40 := by omega
      subst e
      refine pr_iload 7 dX8_sumOverTrips_5 rfl rfl ?_
      refine pr_aload_n 8 dX8_sumOverTrips_7 rfl rfl rfl ?_
      refine pr_getP d 11 dX8_sumOverTrips_8 fX8_52 h1 rfl ?_
      refine pr_getI 14 dX8_sumOverTrips_11 fX8_105 rfl ?_
      rw [hd.2.2.2.2.1]
      refine pr_icmp_ge 51 17 dX8_sumOverTrips_14 rfl rfl (fun c_14 => ?_) (fun c_14 => absurd (Int32.le_refl _) (c_14))
      refine pr_iload_n 52 dX8_sumOverTrips_51 rfl rfl rfl ?_
      refine pr_ireturn dX8_sumOverTrips_52 rfl ?_
      exact ⟨rfl, rfl⟩
    | succ j ih =>
      intro t hj
      have b1 := (hd.2.2.2.2.2.2.2.2 t (by omega)).1
      have a2 := (hW.2.2.2.2.2.2.2.2.1 t (by omega)).2.1
      refine pr_iload 7 dX8_sumOverTrips_5 rfl rfl ?_
      refine pr_aload_n 8 dX8_sumOverTrips_7 rfl rfl rfl ?_
      refine pr_getP d 11 dX8_sumOverTrips_8 fX8_52 h1 rfl ?_
      refine pr_getI 14 dX8_sumOverTrips_11 fX8_105 rfl ?_
      rw [hd.2.2.2.2.1]
      refine pr_icmp_ge 51 17 dX8_sumOverTrips_14 rfl rfl (fun c_14 => absurd (c_14) (nI_ge (by omega) (by omega))) (fun c_14 => ?_)
      refine pr_iload 19 dX8_sumOverTrips_17 rfl rfl ?_
      refine pr_aload_n 20 dX8_sumOverTrips_19 rfl rfl rfl ?_
      refine pr_alen 21 dX8_sumOverTrips_20 rfl rfl rfl ?_
      refine pr_icmp_ge 51 24 dX8_sumOverTrips_21 rfl rfl (fun c_21 => absurd (c_21) (nI_ge (by omega) (by omega))) (fun c_21 => ?_)
      refine pr_aload_n 25 dX8_sumOverTrips_24 rfl rfl rfl ?_
      refine pr_getP d 28 dX8_sumOverTrips_25 fX8_52 h1 rfl ?_
      refine pr_getR0 31 dX8_sumOverTrips_28 fX8_198 rfl ?_
      refine pr_iload 33 dX8_sumOverTrips_31 rfl rfl ?_
      refine pr_iaload t 34 dX8_sumOverTrips_33 rfl rfl rfl (by omega) rfl ?_
      rw [b1]
      refine pr_iload_n 35 dX8_sumOverTrips_34 rfl rfl rfl ?_
      refine pr_icmp_ne 45 38 dX8_sumOverTrips_35 rfl rfl (fun c_35 => ?_) (fun c_35 => ?_)
      · rw [nI_eq (by omega) (by omega)] at c_35
        refine pr_iinc 48 dX8_sumOverTrips_45 rfl (by first | exact pm_inc _ | rfl) (pm_st_4 rfl rfl) rfl ?_
        refine pr_goto 5 dX8_sumOverTrips_48 rfl ?_
        have := ih (t + 1) (by omega)
        rw [sm, if_neg c_35, Nat.add_zero] at this
        exact this
      · rw [nI_eq (by omega) (by omega)] at c_35
        refine pr_iload_n 39 dX8_sumOverTrips_38 rfl rfl rfl ?_
        refine pr_aload_n 40 dX8_sumOverTrips_39 rfl rfl rfl ?_
        refine pr_iload 42 dX8_sumOverTrips_40 rfl rfl ?_
        refine pr_iaload t 43 dX8_sumOverTrips_42 rfl rfl rfl (by omega) rfl ?_
        rw [hf t (by omega)]
        refine pr_iadd 44 dX8_sumOverTrips_43 rfl ?_
        rw [nI_add]
        refine pr_istore_n 45 dX8_sumOverTrips_44 rfl (pm_st_3 rfl rfl) rfl ?_
        refine pr_iinc 48 dX8_sumOverTrips_45 rfl (by first | exact pm_inc _ | rfl) (pm_st_4 rfl rfl) rfl ?_
        refine pr_goto 5 dX8_sumOverTrips_48 rfl ?_
        have := ih (t + 1) (by omega)
        rw [sm, if_pos c_35] at this
        exact this
  refine Cl.of (own := RX8) rfl rfl (Nat.le_of_ble_eq_true rfl) rfl ?_; show PR _ _ _ _ _ _ [some _, some _, some _, none, none] _ _ _
  refine pr_iconst (0) 1 dX8_sumOverTrips_0 (by decide) rfl ?_
  refine pr_istore_n 2 dX8_sumOverTrips_1 rfl (pm_st_3 rfl rfl) rfl ?_
  refine pr_iconst (0) 3 dX8_sumOverTrips_2 (by decide) rfl ?_
  refine pr_istore 5 dX8_sumOverTrips_3 (pm_st_4 rfl rfl) rfl ?_
  exact lp (K 40) 0 (by omega)
set_option maxRecDepth 100000 in
theorem sp_sumOver_empty (h : IC mem d K) (hW : WF K) {k : Nat} (hk : k < 4) {f : Nat → Nat} (hf : ∀ t, t < K 40 → mem.1 20016202 0 t = nI (f t)) : Cd yX8_sumOverTrips cX8_sumOverTrips 5 (some .int) 0 0 [pR 10008908 0, pI (nI k), pR 20016202 0] mem (some (pI (nI (sm (fun t => if K (101 + 6 * t) = k then f t else 0) (K 40))))) mem := by
  have h16 := hW.2.2.2.2.1
  have h4 := hW.2.2.1
  obtain ⟨h1, hd, -⟩ := h
  have lp : ∀ j t, t + j = K 40 → PR cX8_sumOverTrips RX8 5 0 0 5 [some (pR 10008908 0), some (pI (nI k)), some (pR 20016202 0), some (pI (nI (sm (fun t => if K (101 + 6 * t) = k then f t else 0) t))), some (pI (nI t))] [] mem (pm_RX cX8_sumOverTrips (some .int) (fun r' m' => r' = some (pI (nI (sm (fun t => if K (101 + 6 * t) = k then f t else 0) (K 40)))) ∧ m' = mem)) := by
    intro j
    induction j with
    | zero =>
      intro t hj
      have e : t = K 40 := by omega
      subst e
      refine pr_iload 7 dX8_sumOverTrips_5 rfl rfl ?_
      refine pr_aload_n 8 dX8_sumOverTrips_7 rfl rfl rfl ?_
      refine pr_getP d 11 dX8_sumOverTrips_8 fX8_52 h1 rfl ?_
      refine pr_getI 14 dX8_sumOverTrips_11 fX8_105 rfl ?_
      rw [hd.2.2.2.2.1]
      refine pr_icmp_ge 51 17 dX8_sumOverTrips_14 rfl rfl (fun c_14 => ?_) (fun c_14 => absurd (Int32.le_refl _) (c_14))
      refine pr_iload_n 52 dX8_sumOverTrips_51 rfl rfl rfl ?_
      refine pr_ireturn dX8_sumOverTrips_52 rfl ?_
      exact ⟨rfl, rfl⟩
    | succ j ih =>
      intro t hj
      have b1 := (hd.2.2.2.2.2.2.2.2 t (by omega)).1
      have a2 := (hW.2.2.2.2.2.2.2.2.1 t (by omega)).2.1
      refine pr_iload 7 dX8_sumOverTrips_5 rfl rfl ?_
      refine pr_aload_n 8 dX8_sumOverTrips_7 rfl rfl rfl ?_
      refine pr_getP d 11 dX8_sumOverTrips_8 fX8_52 h1 rfl ?_
      refine pr_getI 14 dX8_sumOverTrips_11 fX8_105 rfl ?_
      rw [hd.2.2.2.2.1]
      refine pr_icmp_ge 51 17 dX8_sumOverTrips_14 rfl rfl (fun c_14 => absurd (c_14) (nI_ge (by omega) (by omega))) (fun c_14 => ?_)
      refine pr_iload 19 dX8_sumOverTrips_17 rfl rfl ?_
      refine pr_aload_n 20 dX8_sumOverTrips_19 rfl rfl rfl ?_
      refine pr_alen 21 dX8_sumOverTrips_20 rfl rfl rfl ?_
      refine pr_icmp_ge 51 24 dX8_sumOverTrips_21 rfl rfl (fun c_21 => absurd (c_21) (nI_ge (by omega) (by omega))) (fun c_21 => ?_)
      refine pr_aload_n 25 dX8_sumOverTrips_24 rfl rfl rfl ?_
      refine pr_getP d 28 dX8_sumOverTrips_25 fX8_52 h1 rfl ?_
      refine pr_getR0 31 dX8_sumOverTrips_28 fX8_198 rfl ?_
      refine pr_iload 33 dX8_sumOverTrips_31 rfl rfl ?_
      refine pr_iaload t 34 dX8_sumOverTrips_33 rfl rfl rfl (by omega) rfl ?_
      rw [b1]
      refine pr_iload_n 35 dX8_sumOverTrips_34 rfl rfl rfl ?_
      refine pr_icmp_ne 45 38 dX8_sumOverTrips_35 rfl rfl (fun c_35 => ?_) (fun c_35 => ?_)
      · rw [nI_eq (by omega) (by omega)] at c_35
        refine pr_iinc 48 dX8_sumOverTrips_45 rfl (by first | exact pm_inc _ | rfl) (pm_st_4 rfl rfl) rfl ?_
        refine pr_goto 5 dX8_sumOverTrips_48 rfl ?_
        have := ih (t + 1) (by omega)
        rw [sm, if_neg c_35, Nat.add_zero] at this
        exact this
      · rw [nI_eq (by omega) (by omega)] at c_35
        refine pr_iload_n 39 dX8_sumOverTrips_38 rfl rfl rfl ?_
        refine pr_aload_n 40 dX8_sumOverTrips_39 rfl rfl rfl ?_
        refine pr_iload 42 dX8_sumOverTrips_40 rfl rfl ?_
        refine pr_iaload t 43 dX8_sumOverTrips_42 rfl rfl rfl (by omega) rfl ?_
        rw [hf t (by omega)]
        refine pr_iadd 44 dX8_sumOverTrips_43 rfl ?_
        rw [nI_add]
        refine pr_istore_n 45 dX8_sumOverTrips_44 rfl (pm_st_3 rfl rfl) rfl ?_
        refine pr_iinc 48 dX8_sumOverTrips_45 rfl (by first | exact pm_inc _ | rfl) (pm_st_4 rfl rfl) rfl ?_
        refine pr_goto 5 dX8_sumOverTrips_48 rfl ?_
        have := ih (t + 1) (by omega)
        rw [sm, if_pos c_35] at this
        exact this
  refine Cl.of (own := RX8) rfl rfl (Nat.le_of_ble_eq_true rfl) rfl ?_; show PR _ _ _ _ _ _ [some _, some _, some _, none, none] _ _ _
  refine pr_iconst (0) 1 dX8_sumOverTrips_0 (by decide) rfl ?_
  refine pr_istore_n 2 dX8_sumOverTrips_1 rfl (pm_st_3 rfl rfl) rfl ?_
  refine pr_iconst (0) 3 dX8_sumOverTrips_2 (by decide) rfl ?_
  refine pr_istore 5 dX8_sumOverTrips_3 (pm_st_4 rfl rfl) rfl ?_
  exact lp (K 40) 0 (by omega)
set_option maxRecDepth 100000 in
theorem sp_sumOver_est (h : IC mem d K) (hW : WF K) {k : Nat} (hk : k < 4) {f : Nat → Nat} (hf : ∀ t, t < K 40 → mem.1 20016086 0 t = nI (f t)) : Cd yX8_sumOverTrips cX8_sumOverTrips 5 (some .int) 0 0 [pR 10008908 0, pI (nI k), pR 20016086 0] mem (some (pI (nI (sm (fun t => if K (101 + 6 * t) = k then f t else 0) (K 40))))) mem := by
  have h16 := hW.2.2.2.2.1
  have h4 := hW.2.2.1
  obtain ⟨h1, hd, -⟩ := h
  have lp : ∀ j t, t + j = K 40 → PR cX8_sumOverTrips RX8 5 0 0 5 [some (pR 10008908 0), some (pI (nI k)), some (pR 20016086 0), some (pI (nI (sm (fun t => if K (101 + 6 * t) = k then f t else 0) t))), some (pI (nI t))] [] mem (pm_RX cX8_sumOverTrips (some .int) (fun r' m' => r' = some (pI (nI (sm (fun t => if K (101 + 6 * t) = k then f t else 0) (K 40)))) ∧ m' = mem)) := by
    intro j
    induction j with
    | zero =>
      intro t hj
      have e : t = K 40 := by omega
      subst e
      refine pr_iload 7 dX8_sumOverTrips_5 rfl rfl ?_
      refine pr_aload_n 8 dX8_sumOverTrips_7 rfl rfl rfl ?_
      refine pr_getP d 11 dX8_sumOverTrips_8 fX8_52 h1 rfl ?_
      refine pr_getI 14 dX8_sumOverTrips_11 fX8_105 rfl ?_
      rw [hd.2.2.2.2.1]
      refine pr_icmp_ge 51 17 dX8_sumOverTrips_14 rfl rfl (fun c_14 => ?_) (fun c_14 => absurd (Int32.le_refl _) (c_14))
      refine pr_iload_n 52 dX8_sumOverTrips_51 rfl rfl rfl ?_
      refine pr_ireturn dX8_sumOverTrips_52 rfl ?_
      exact ⟨rfl, rfl⟩
    | succ j ih =>
      intro t hj
      have b1 := (hd.2.2.2.2.2.2.2.2 t (by omega)).1
      have a2 := (hW.2.2.2.2.2.2.2.2.1 t (by omega)).2.1
      refine pr_iload 7 dX8_sumOverTrips_5 rfl rfl ?_
      refine pr_aload_n 8 dX8_sumOverTrips_7 rfl rfl rfl ?_
      refine pr_getP d 11 dX8_sumOverTrips_8 fX8_52 h1 rfl ?_
      refine pr_getI 14 dX8_sumOverTrips_11 fX8_105 rfl ?_
      rw [hd.2.2.2.2.1]
      refine pr_icmp_ge 51 17 dX8_sumOverTrips_14 rfl rfl (fun c_14 => absurd (c_14) (nI_ge (by omega) (by omega))) (fun c_14 => ?_)
      refine pr_iload 19 dX8_sumOverTrips_17 rfl rfl ?_
      refine pr_aload_n 20 dX8_sumOverTrips_19 rfl rfl rfl ?_
      refine pr_alen 21 dX8_sumOverTrips_20 rfl rfl rfl ?_
      refine pr_icmp_ge 51 24 dX8_sumOverTrips_21 rfl rfl (fun c_21 => absurd (c_21) (nI_ge (by omega) (by omega))) (fun c_21 => ?_)
      refine pr_aload_n 25 dX8_sumOverTrips_24 rfl rfl rfl ?_
      refine pr_getP d 28 dX8_sumOverTrips_25 fX8_52 h1 rfl ?_
      refine pr_getR0 31 dX8_sumOverTrips_28 fX8_198 rfl ?_
      refine pr_iload 33 dX8_sumOverTrips_31 rfl rfl ?_
      refine pr_iaload t 34 dX8_sumOverTrips_33 rfl rfl rfl (by omega) rfl ?_
      rw [b1]
      refine pr_iload_n 35 dX8_sumOverTrips_34 rfl rfl rfl ?_
      refine pr_icmp_ne 45 38 dX8_sumOverTrips_35 rfl rfl (fun c_35 => ?_) (fun c_35 => ?_)
      · rw [nI_eq (by omega) (by omega)] at c_35
        refine pr_iinc 48 dX8_sumOverTrips_45 rfl (by first | exact pm_inc _ | rfl) (pm_st_4 rfl rfl) rfl ?_
        refine pr_goto 5 dX8_sumOverTrips_48 rfl ?_
        have := ih (t + 1) (by omega)
        rw [sm, if_neg c_35, Nat.add_zero] at this
        exact this
      · rw [nI_eq (by omega) (by omega)] at c_35
        refine pr_iload_n 39 dX8_sumOverTrips_38 rfl rfl rfl ?_
        refine pr_aload_n 40 dX8_sumOverTrips_39 rfl rfl rfl ?_
        refine pr_iload 42 dX8_sumOverTrips_40 rfl rfl ?_
        refine pr_iaload t 43 dX8_sumOverTrips_42 rfl rfl rfl (by omega) rfl ?_
        rw [hf t (by omega)]
        refine pr_iadd 44 dX8_sumOverTrips_43 rfl ?_
        rw [nI_add]
        refine pr_istore_n 45 dX8_sumOverTrips_44 rfl (pm_st_3 rfl rfl) rfl ?_
        refine pr_iinc 48 dX8_sumOverTrips_45 rfl (by first | exact pm_inc _ | rfl) (pm_st_4 rfl rfl) rfl ?_
        refine pr_goto 5 dX8_sumOverTrips_48 rfl ?_
        have := ih (t + 1) (by omega)
        rw [sm, if_pos c_35] at this
        exact this
  refine Cl.of (own := RX8) rfl rfl (Nat.le_of_ble_eq_true rfl) rfl ?_; show PR _ _ _ _ _ _ [some _, some _, some _, none, none] _ _ _
  refine pr_iconst (0) 1 dX8_sumOverTrips_0 (by decide) rfl ?_
  refine pr_istore_n 2 dX8_sumOverTrips_1 rfl (pm_st_3 rfl rfl) rfl ?_
  refine pr_iconst (0) 3 dX8_sumOverTrips_2 (by decide) rfl ?_
  refine pr_istore 5 dX8_sumOverTrips_3 (pm_st_4 rfl rfl) rfl ?_
  exact lp (K 40) 0 (by omega)
def tbk (K : Nat → Nat) (k : Nat) (t : Nat) : Nat := sm (fun t => if K (101 + 6 * t) = k then 2 ^ t else 0) t
theorem or_pow {a t : Nat} (h : a < 2 ^ t) : a ||| 2 ^ t = a + 2 ^ t := by
  have := Nat.two_pow_add_eq_or_of_lt h 1
  rw [Nat.mul_one] at this
  rw [Nat.or_comm, ← this, Nat.add_comm]
theorem sm_pow {p : Nat → Bool} : ∀ n, sm (fun t => if p t = true then 2 ^ t else 0) n < 2 ^ n
  | 0 => by simp [sm]
  | n + 1 => by
    have := sm_pow (p := p) n
    rw [sm, Nat.pow_succ]
    split <;> omega
theorem tbk_lt (K : Nat → Nat) (k t : Nat) : tbk K k t < 2 ^ t := by
  have := sm_pow (p := fun t => decide (K (101 + 6 * t) = k)) t
  simp only [decide_eq_true_eq] at this
  exact this
theorem tbs_lt (K : Nat → Nat) (l t : Nat) : tbs K l t < 2 ^ t := sm_pow (p := fun t => bit K t l) t
set_option maxRecDepth 100000 in
theorem sp_X8_tripBits (h : IC mem d K) (hW : WF K) {k : Nat} (hk : k < 4) : Cd yX8_tripBits cX8_tripBits 4 (some .int) 0 0 [pR 10008908 0, pI (nI k)] mem (some (pI (nI (tbk K k (K 40))))) mem := by
  have h16 := hW.2.2.2.2.1
  have h4 := hW.2.2.1
  obtain ⟨h1, hd, -⟩ := h
  have lp : ∀ j t, t + j = K 40 → PR cX8_tripBits RX8 4 0 0 4 [some (pR 10008908 0), some (pI (nI k)), some (pI (nI (tbk K k t))), some (pI (nI t))] [] mem (pm_RX cX8_tripBits (some .int) (fun r' m' => r' = some (pI (nI (tbk K k (K 40)))) ∧ m' = mem)) := by
    intro j
    induction j with
    | zero =>
      intro t hj
      have e : t = K 40 := by omega
      subst e
      refine pr_iload_n 5 dX8_tripBits_4 rfl rfl rfl ?_
      refine pr_aload_n 6 dX8_tripBits_5 rfl rfl rfl ?_
      refine pr_getP d 9 dX8_tripBits_6 fX8_52 h1 rfl ?_
      refine pr_getI 12 dX8_tripBits_9 fX8_105 rfl ?_
      rw [hd.2.2.2.2.1]
      refine pr_icmp_ge 40 15 dX8_tripBits_12 rfl rfl (fun c_12 => ?_) (fun c_12 => absurd (Int32.le_refl _) (c_12))
      refine pr_iload_n 41 dX8_tripBits_40 rfl rfl rfl ?_
      refine pr_ireturn dX8_tripBits_41 rfl ?_
      exact ⟨rfl, rfl⟩
    | succ j ih =>
      intro t hj
      have b1 := (hd.2.2.2.2.2.2.2.2 t (by omega)).1
      have a2 := (hW.2.2.2.2.2.2.2.2.1 t (by omega)).2.1
      refine pr_iload_n 5 dX8_tripBits_4 rfl rfl rfl ?_
      refine pr_aload_n 6 dX8_tripBits_5 rfl rfl rfl ?_
      refine pr_getP d 9 dX8_tripBits_6 fX8_52 h1 rfl ?_
      refine pr_getI 12 dX8_tripBits_9 fX8_105 rfl ?_
      rw [hd.2.2.2.2.1]
      refine pr_icmp_ge 40 15 dX8_tripBits_12 rfl rfl (fun c_12 => absurd (c_12) (nI_ge (by omega) (by omega))) (fun c_12 => ?_)
      refine pr_aload_n 16 dX8_tripBits_15 rfl rfl rfl ?_
      refine pr_getP d 19 dX8_tripBits_16 fX8_52 h1 rfl ?_
      refine pr_getR0 22 dX8_tripBits_19 fX8_198 rfl ?_
      refine pr_iload_n 23 dX8_tripBits_22 rfl rfl rfl ?_
      refine pr_iaload t 24 dX8_tripBits_23 rfl rfl rfl (by omega) rfl ?_
      rw [b1]
      refine pr_iload_n 25 dX8_tripBits_24 rfl rfl rfl ?_
      refine pr_icmp_ne 34 28 dX8_tripBits_25 rfl rfl (fun c_25 => ?_) (fun c_25 => ?_)
      · rw [nI_eq (by omega) (by omega)] at c_25
        refine pr_iinc 37 dX8_tripBits_34 rfl (by first | exact pm_inc _ | rfl) (pm_st_3 rfl rfl) rfl ?_
        refine pr_goto 4 dX8_tripBits_37 rfl ?_
        have := ih (t + 1) (by omega)
        rw [tbk, sm, if_neg c_25, Nat.add_zero] at this
        exact this
      · rw [nI_eq (by omega) (by omega)] at c_25
        refine pr_iload_n 29 dX8_tripBits_28 rfl rfl rfl ?_
        refine pr_iconst (1) 30 dX8_tripBits_29 (by decide) rfl ?_
        refine pr_iload_n 31 dX8_tripBits_30 rfl rfl rfl ?_
        refine pr_ishl 32 dX8_tripBits_31 rfl ?_
        rw [nI_shl1 t (by omega)]
        refine pr_ior 33 dX8_tripBits_32 rfl ?_
        rw [nI_orN, or_pow (tbk_lt K k t)]
        refine pr_istore_n 34 dX8_tripBits_33 rfl (pm_st_2 rfl rfl) rfl ?_
        refine pr_iinc 37 dX8_tripBits_34 rfl (by first | exact pm_inc _ | rfl) (pm_st_3 rfl rfl) rfl ?_
        refine pr_goto 4 dX8_tripBits_37 rfl ?_
        have := ih (t + 1) (by omega)
        rw [tbk, sm, if_pos c_25] at this
        exact this
  refine Cl.of (own := RX8) rfl rfl (Nat.le_of_ble_eq_true rfl) rfl ?_; show PR _ _ _ _ _ _ [some _, some _, none, none] _ _ _
  refine pr_iconst (0) 1 dX8_tripBits_0 (by decide) rfl ?_
  refine pr_istore_n 2 dX8_tripBits_1 rfl (pm_st_2 rfl rfl) rfl ?_
  refine pr_iconst (0) 3 dX8_tripBits_2 (by decide) rfl ?_
  refine pr_istore_n 4 dX8_tripBits_3 rfl (pm_st_3 rfl rfl) rfl ?_
  exact lp (K 40) 0 (by omega)
set_option maxRecDepth 100000 in
theorem sp_X8_lastPlace (h : IC mem d K) (hW : WF K) {k : Nat} (hk : k < 4) : Cd yX8_lastPlace cX8_lastPlace 4 (some .int) 0 0 [pR 10008908 0, pI (nI k)] mem (some (pI (onI (lt K k (K 40))))) mem := by
  have h16 := hW.2.2.2.2.1
  have h4 := hW.2.2.1
  obtain ⟨h1, hd, hr, -⟩ := h
  have lp : ∀ j t, t + j = K 40 → PR cX8_lastPlace RX8 4 0 0 4 [some (pR 10008908 0), some (pI (nI k)), some (pI (onI (lt K k t))), some (pI (nI t))] [] mem (pm_RX cX8_lastPlace (some .int) (fun r' m' => r' = some (pI (onI (lt K k (K 40)))) ∧ m' = mem)) := by
    intro j
    induction j with
    | zero =>
      intro t hj
      have e : t = K 40 := by omega
      subst e
      refine pr_iload_n 5 dX8_lastPlace_4 rfl rfl rfl ?_
      refine pr_aload_n 6 dX8_lastPlace_5 rfl rfl rfl ?_
      refine pr_getP d 9 dX8_lastPlace_6 fX8_52 h1 rfl ?_
      refine pr_getI 12 dX8_lastPlace_9 fX8_105 rfl ?_
      rw [hd.2.2.2.2.1]
      refine pr_icmp_ge 44 15 dX8_lastPlace_12 rfl rfl (fun c_12 => ?_) (fun c_12 => absurd (Int32.le_refl _) (c_12))
      refine pr_iload_n 45 dX8_lastPlace_44 rfl rfl rfl ?_
      refine pr_ireturn dX8_lastPlace_45 rfl ?_
      exact ⟨rfl, rfl⟩
    | succ j ih =>
      intro t hj
      have b1 := (hd.2.2.2.2.2.2.2.2 t (by omega)).1
      have a2 := (hW.2.2.2.2.2.2.2.2.1 t (by omega)).2.1
      refine pr_iload_n 5 dX8_lastPlace_4 rfl rfl rfl ?_
      refine pr_aload_n 6 dX8_lastPlace_5 rfl rfl rfl ?_
      refine pr_getP d 9 dX8_lastPlace_6 fX8_52 h1 rfl ?_
      refine pr_getI 12 dX8_lastPlace_9 fX8_105 rfl ?_
      rw [hd.2.2.2.2.1]
      refine pr_icmp_ge 44 15 dX8_lastPlace_12 rfl rfl (fun c_12 => absurd (c_12) (nI_ge (by omega) (by omega))) (fun c_12 => ?_)
      refine pr_aload_n 16 dX8_lastPlace_15 rfl rfl rfl ?_
      refine pr_getP d 19 dX8_lastPlace_16 fX8_52 h1 rfl ?_
      refine pr_getR0 22 dX8_lastPlace_19 fX8_198 rfl ?_
      refine pr_iload_n 23 dX8_lastPlace_22 rfl rfl rfl ?_
      refine pr_iaload t 24 dX8_lastPlace_23 rfl rfl rfl (by omega) rfl ?_
      rw [b1]
      refine pr_iload_n 25 dX8_lastPlace_24 rfl rfl rfl ?_
      refine pr_icmp_ne 38 28 dX8_lastPlace_25 rfl rfl (fun c_25 => ?_) (fun c_25 => ?_)
      · rw [nI_eq (by omega) (by omega)] at c_25
        refine pr_iinc 41 dX8_lastPlace_38 rfl (by first | exact pm_inc _ | rfl) (pm_st_3 rfl rfl) rfl ?_
        refine pr_goto 4 dX8_lastPlace_41 rfl ?_
        have := ih (t + 1) (by omega)
        rw [lt, if_neg c_25] at this
        exact this
      · rw [nI_eq (by omega) (by omega)] at c_25
        refine pr_aload_n 29 dX8_lastPlace_28 rfl rfl rfl ?_
        refine pr_getR0 32 dX8_lastPlace_29 fX8_28 rfl ?_
        refine pr_getR0 35 dX8_lastPlace_32 fX8_222 rfl ?_
        refine pr_iload_n 36 dX8_lastPlace_35 rfl rfl rfl ?_
        refine pr_iaload t 37 dX8_lastPlace_36 rfl rfl rfl (by omega) rfl ?_
        rw [(hr.1 t (by omega)).2.2.1]
        refine pr_istore_n 38 dX8_lastPlace_37 rfl (pm_st_2 rfl rfl) rfl ?_
        refine pr_iinc 41 dX8_lastPlace_38 rfl (by first | exact pm_inc _ | rfl) (pm_st_3 rfl rfl) rfl ?_
        refine pr_goto 4 dX8_lastPlace_41 rfl ?_
        have := ih (t + 1) (by omega)
        rw [lt, if_pos c_25] at this
        exact this
  refine Cl.of (own := RX8) rfl rfl (Nat.le_of_ble_eq_true rfl) rfl ?_; show PR _ _ _ _ _ _ [some _, some _, none, none] _ _ _
  refine pr_iconst (-1) 1 dX8_lastPlace_0 (by decide) rfl ?_
  refine pr_istore_n 2 dX8_lastPlace_1 rfl (pm_st_2 rfl rfl) rfl ?_
  refine pr_iconst (0) 3 dX8_lastPlace_2 (by decide) rfl ?_
  refine pr_istore_n 4 dX8_lastPlace_3 rfl (pm_st_3 rfl rfl) rfl ?_
  exact lp (K 40) 0 (by omega)
set_option maxRecDepth 100000 in
theorem sp_X8_tripBitsOfLoad (h : IC mem d K) (hW : WF K) {l : Nat} (hl : l < K 39) : Cd yX8_tripBitsOfLoad cX8_tripBitsOfLoad 4 (some .int) 0 0 [pR 10008908 0, pI (nI l)] mem (some (pI (nI (tbs K l (K 40))))) mem := by
  have h16 := hW.2.2.2.2.1
  have hn16 := hW.2.2.2.1
  obtain ⟨h1, hd, hr, -⟩ := h
  have lp : ∀ j t, t + j = K 40 → PR cX8_tripBitsOfLoad RX8 4 0 0 4 [some (pR 10008908 0), some (pI (nI l)), some (pI (nI (tbs K l t))), some (pI (nI t))] [] mem (pm_RX cX8_tripBitsOfLoad (some .int) (fun r' m' => r' = some (pI (nI (tbs K l (K 40)))) ∧ m' = mem)) := by
    intro j
    induction j with
    | zero =>
      intro t hj
      have e : t = K 40 := by omega
      subst e
      refine pr_iload_n 5 dX8_tripBitsOfLoad_4 rfl rfl rfl ?_
      refine pr_aload_n 6 dX8_tripBitsOfLoad_5 rfl rfl rfl ?_
      refine pr_getP d 9 dX8_tripBitsOfLoad_6 fX8_52 h1 rfl ?_
      refine pr_getI 12 dX8_tripBitsOfLoad_9 fX8_105 rfl ?_
      rw [hd.2.2.2.2.1]
      refine pr_icmp_ge 43 15 dX8_tripBitsOfLoad_12 rfl rfl (fun c_12 => ?_) (fun c_12 => absurd (Int32.le_refl _) (c_12))
      refine pr_iload_n 44 dX8_tripBitsOfLoad_43 rfl rfl rfl ?_
      refine pr_ireturn dX8_tripBitsOfLoad_44 rfl ?_
      exact ⟨rfl, rfl⟩
    | succ j ih =>
      intro t hj
      have hbit := nI_shr1 (w := K (106 + 6 * t)) (l := l) (by omega)
      refine pr_iload_n 5 dX8_tripBitsOfLoad_4 rfl rfl rfl ?_
      refine pr_aload_n 6 dX8_tripBitsOfLoad_5 rfl rfl rfl ?_
      refine pr_getP d 9 dX8_tripBitsOfLoad_6 fX8_52 h1 rfl ?_
      refine pr_getI 12 dX8_tripBitsOfLoad_9 fX8_105 rfl ?_
      rw [hd.2.2.2.2.1]
      refine pr_icmp_ge 43 15 dX8_tripBitsOfLoad_12 rfl rfl (fun c_12 => absurd (c_12) (nI_ge (by omega) (by omega))) (fun c_12 => ?_)
      refine pr_aload_n 16 dX8_tripBitsOfLoad_15 rfl rfl rfl ?_
      refine pr_getR0 19 dX8_tripBitsOfLoad_16 fX8_28 rfl ?_
      refine pr_getR0 22 dX8_tripBitsOfLoad_19 fX8_204 rfl ?_
      refine pr_iload_n 23 dX8_tripBitsOfLoad_22 rfl rfl rfl ?_
      refine pr_iaload t 24 dX8_tripBitsOfLoad_23 rfl rfl rfl (by omega) rfl ?_
      rw [(hr.1 t (by omega)).2.2.2]
      refine pr_iload_n 25 dX8_tripBitsOfLoad_24 rfl rfl rfl ?_
      refine pr_ishr 26 dX8_tripBitsOfLoad_25 rfl ?_
      refine pr_iconst (1) 27 dX8_tripBitsOfLoad_26 (by decide) rfl ?_
      refine pr_iand 28 dX8_tripBitsOfLoad_27 rfl ?_
      rw [hbit]
      refine pr_if_eq 37 31 dX8_tripBitsOfLoad_28 rfl rfl (fun c_28 => ?_) (fun c_28 => ?_)
      · have hb : ¬ bit K t l = true := fun z => by
          unfold bit at z
          rw [if_pos z] at c_28
          exact absurd c_28 (by decide)
        refine pr_iinc 40 dX8_tripBitsOfLoad_37 rfl (by first | exact pm_inc _ | rfl) (pm_st_3 rfl rfl) rfl ?_
        refine pr_goto 4 dX8_tripBitsOfLoad_40 rfl ?_
        have := ih (t + 1) (by omega)
        rw [tbs, sm, if_neg hb, Nat.add_zero] at this
        exact this
      · have hb : bit K t l = true := by
          unfold bit
          exact Decidable.byContradiction (fun z => c_28 (by rw [if_neg z]; rfl))
        refine pr_iload_n 32 dX8_tripBitsOfLoad_31 rfl rfl rfl ?_
        refine pr_iconst (1) 33 dX8_tripBitsOfLoad_32 (by decide) rfl ?_
        refine pr_iload_n 34 dX8_tripBitsOfLoad_33 rfl rfl rfl ?_
        refine pr_ishl 35 dX8_tripBitsOfLoad_34 rfl ?_
        rw [nI_shl1 t (by omega)]
        refine pr_ior 36 dX8_tripBitsOfLoad_35 rfl ?_
        rw [nI_orN, or_pow (tbs_lt K l t)]
        refine pr_istore_n 37 dX8_tripBitsOfLoad_36 rfl (pm_st_2 rfl rfl) rfl ?_
        refine pr_iinc 40 dX8_tripBitsOfLoad_37 rfl (by first | exact pm_inc _ | rfl) (pm_st_3 rfl rfl) rfl ?_
        refine pr_goto 4 dX8_tripBitsOfLoad_40 rfl ?_
        have := ih (t + 1) (by omega)
        rw [tbs, sm, if_pos hb] at this
        exact this
  refine Cl.of (own := RX8) rfl rfl (Nat.le_of_ble_eq_true rfl) rfl ?_; show PR _ _ _ _ _ _ [some _, some _, none, none] _ _ _
  refine pr_iconst (0) 1 dX8_tripBitsOfLoad_0 (by decide) rfl ?_
  refine pr_istore_n 2 dX8_tripBitsOfLoad_1 rfl (pm_st_2 rfl rfl) rfl ?_
  refine pr_iconst (0) 3 dX8_tripBitsOfLoad_2 (by decide) rfl ?_
  refine pr_istore_n 4 dX8_tripBitsOfLoad_3 rfl (pm_st_3 rfl rfl) rfl ?_
  exact lp (K 40) 0 (by omega)
set_option maxRecDepth 100000 in
theorem sp_X8_partsOfLoad (h : IC mem d K) (hW : WF K) {l : Nat} (hl : l < K 39) : Cd yX8_partsOfLoad cX8_partsOfLoad 4 (some .int) 0 0 [pR 10008908 0, pI (nI l)] mem (some (pI (nI (sm (fun t => ptl K (aw K) ai t l) (K 40))))) mem := by
  have h16 := hW.2.2.2.2.1
  have hn16 := hW.2.2.2.1
  obtain ⟨h1, hd, hr, -, -, -, ha⟩ := h
  have lp : ∀ j t, t + j = K 40 → PR cX8_partsOfLoad RX8 4 0 0 4 [some (pR 10008908 0), some (pI (nI l)), some (pI (nI (sm (fun t => ptl K (aw K) ai t l) t))), some (pI (nI t))] [] mem (pm_RX cX8_partsOfLoad (some .int) (fun r' m' => r' = some (pI (nI (sm (fun t => ptl K (aw K) ai t l) (K 40)))) ∧ m' = mem)) := by
    intro j
    induction j with
    | zero =>
      intro t hj
      have e : t = K 40 := by omega
      subst e
      refine pr_iload_n 5 dX8_partsOfLoad_4 rfl rfl rfl ?_
      refine pr_aload_n 6 dX8_partsOfLoad_5 rfl rfl rfl ?_
      refine pr_getP d 9 dX8_partsOfLoad_6 fX8_52 h1 rfl ?_
      refine pr_getI 12 dX8_partsOfLoad_9 fX8_105 rfl ?_
      rw [hd.2.2.2.2.1]
      refine pr_icmp_ge 35 15 dX8_partsOfLoad_12 rfl rfl (fun c_12 => ?_) (fun c_12 => absurd (Int32.le_refl _) (c_12))
      refine pr_iload_n 36 dX8_partsOfLoad_35 rfl rfl rfl ?_
      refine pr_ireturn dX8_partsOfLoad_36 rfl ?_
      exact ⟨rfl, rfl⟩
    | succ j ih =>
      intro t hj
      have e1 := (ha.2.2.1 t (by omega)).2 l hl
      rw [Nat.mul_zero, Nat.zero_add] at e1
      refine pr_iload_n 5 dX8_partsOfLoad_4 rfl rfl rfl ?_
      refine pr_aload_n 6 dX8_partsOfLoad_5 rfl rfl rfl ?_
      refine pr_getP d 9 dX8_partsOfLoad_6 fX8_52 h1 rfl ?_
      refine pr_getI 12 dX8_partsOfLoad_9 fX8_105 rfl ?_
      rw [hd.2.2.2.2.1]
      refine pr_icmp_ge 35 15 dX8_partsOfLoad_12 rfl rfl (fun c_12 => absurd (c_12) (nI_ge (by omega) (by omega))) (fun c_12 => ?_)
      refine pr_iload_n 16 dX8_partsOfLoad_15 rfl rfl rfl ?_
      refine pr_aload_n 17 dX8_partsOfLoad_16 rfl rfl rfl ?_
      refine pr_getR0 20 dX8_partsOfLoad_17 fX8_35 rfl ?_
      refine pr_getR0 23 dX8_partsOfLoad_20 fX8_288 rfl ?_
      refine pr_iload_n 24 dX8_partsOfLoad_23 rfl rfl rfl ?_
      first | refine pr_aaload0 (n := 16) t 20016488 25 dX8_partsOfLoad_24 rfl rfl rfl rfl (by omega) rfl ?_ | refine pr_aaload (n := 16) t 20016488 25 dX8_partsOfLoad_24 rfl rfl rfl rfl (by omega) rfl ?_
      refine pr_iload_n 26 dX8_partsOfLoad_25 rfl rfl rfl ?_
      refine pr_iaload l 27 dX8_partsOfLoad_26 rfl rfl rfl (by omega) rfl ?_
      rw [e1]
      refine pr_iadd 28 dX8_partsOfLoad_27 rfl ?_
      rw [nI_add]
      refine pr_istore_n 29 dX8_partsOfLoad_28 rfl (pm_st_2 rfl rfl) rfl ?_
      refine pr_iinc 32 dX8_partsOfLoad_29 rfl (by first | exact pm_inc _ | rfl) (pm_st_3 rfl rfl) rfl ?_
      refine pr_goto 4 dX8_partsOfLoad_32 rfl ?_
      exact ih (t + 1) (by omega)
  refine Cl.of (own := RX8) rfl rfl (Nat.le_of_ble_eq_true rfl) rfl ?_; show PR _ _ _ _ _ _ [some _, some _, none, none] _ _ _
  refine pr_iconst (0) 1 dX8_partsOfLoad_0 (by decide) rfl ?_
  refine pr_istore_n 2 dX8_partsOfLoad_1 rfl (pm_st_2 rfl rfl) rfl ?_
  refine pr_iconst (0) 3 dX8_partsOfLoad_2 (by decide) rfl ?_
  refine pr_istore_n 4 dX8_partsOfLoad_3 rfl (pm_st_3 rfl rfl) rfl ?_
  exact lp (K 40) 0 (by omega)
set_option maxRecDepth 100000 in
theorem sp_X8_due (h : IC mem d K) (hW : WF K) {l : Nat} (hl : l < K 39) : Cd yX8_due cX8_due 4 (some .int) 0 0 [pR 10008908 0, pI (nI l)] mem (some (pI (nI (due K l)))) mem := by
  have h16 := hW.2.2.2.2.1
  have hn16 := hW.2.2.2.1
  obtain ⟨h1, hd, hr, -, hx, -⟩ := h
  have hr9 := hW.1
  have hw := (hW.2.2.2.2.2.2.2.1 l hl).1
  have hgb : gsm K (gla K l) ≤ 17 * 198 := by
    have a1 := gsm_le hW (gla_pl hW hl)
    have a2 := gla_len K l
    have a3 : (gla K l).length * 198 ≤ 17 * 198 := Nat.mul_le_mul_right _ (by omega)
    omega
  have hb : K (20 + l) * gsm K (gla K l) * K 36 ≤ 99 * (17 * 198) * 999 := Nat.mul_le_mul (Nat.mul_le_mul hw hgb) hr9
  refine Cl.of (own := RX8) rfl rfl (Nat.le_of_ble_eq_true rfl) rfl ?_; show PR _ _ _ _ _ _ [some _, some _, none, none] _ _ _
  refine pr_aload_n 1 dX8_due_0 rfl rfl rfl ?_
  refine pr_getP d 4 dX8_due_1 fX8_52 h1 rfl ?_
  refine pr_getR0 7 dX8_due_4 fX8_170 rfl ?_
  refine pr_iload_n 8 dX8_due_7 rfl rfl rfl ?_
  refine pr_iaload l 9 dX8_due_8 rfl rfl rfl (by omega) rfl ?_
  rw [(hd.2.2.2.2.2.2.2.1 l hl).1]
  refine pr_i2l 10 dX8_due_9 rfl ?_
  rw [nI_l (by omega)]
  refine pr_aload_n 11 dX8_due_10 rfl rfl rfl ?_
  refine pr_getR0 14 dX8_due_11 fX8_28 rfl ?_
  refine pr_getR0 17 dX8_due_14 fX8_291 rfl ?_
  refine pr_iload_n 18 dX8_due_17 rfl rfl rfl ?_
  refine pr_iaload l 19 dX8_due_18 rfl rfl rfl (by omega) rfl ?_
  rw [(hx l hl).2.1]
  refine pr_i2l 20 dX8_due_19 rfl ?_
  rw [nI_l (by omega)]
  refine pr_lmul 21 dX8_due_20 rfl ?_
  rw [lN_mul]
  refine pr_aload_n 22 dX8_due_21 rfl rfl rfl ?_
  refine pr_getP d 25 dX8_due_22 fX8_52 h1 rfl ?_
  refine pr_getI 28 dX8_due_25 fX8_93 rfl ?_
  rw [hd.1]
  refine pr_i2l 29 dX8_due_28 rfl ?_
  rw [nI_l (by omega)]
  refine pr_lmul 30 dX8_due_29 rfl ?_
  rw [lN_mul]
  refine pr_lstore_n 31 dX8_due_30 rfl (pm_st2_2 rfl) rfl ?_
  refine pr_lload_n 32 dX8_due_31 rfl rfl rfl ?_
  refine pr_ldc2 _ 35 dX8_due_32 kX8_294 rfl ?_
  refine pr_ladd 36 dX8_due_35 rfl ?_
  rw [show (999 : Int64) = lN 999 from rfl, lN_add]
  refine pr_ldc2 _ 39 dX8_due_36 kX8_296 rfl ?_
  refine pr_ldiv (by decide) 40 dX8_due_39 rfl ?_
  rw [show (1000 : Int64) = lN 1000 from rfl, lN_div (by omega) (by omega)]
  refine pr_l2i 41 dX8_due_40 rfl ?_
  rw [lN_i]
  refine pr_ireturn dX8_due_41 rfl ?_
  exact ⟨rfl, rfl⟩
end CQ
