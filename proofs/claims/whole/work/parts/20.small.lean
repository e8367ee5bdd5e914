/-! small methods -/
set_option maxRecDepth 100000 in
theorem sp_X8_isIn {mem : pm_M} (i n : Int32) : Cd yX8_isIn cX8_isIn 2 (some .boolean) 0 0 [pI i, pI n] mem (some (pI (if 0 ≤ i ∧ i < n then 1 else 0))) mem := by
  refine Cl.of (own := RX8) rfl rfl (Nat.le_of_ble_eq_true rfl) rfl ?_; show PR _ _ _ _ _ _ [some _, some _] _ _ _
  refine pr_iload_n 1 dX8_isIn_0 rfl rfl rfl ?_
  refine pr_if_lt 13 4 dX8_isIn_1 rfl rfl (fun c_1 => ?_) (fun c_1 => ?_)
  · refine pr_iconst (0) 14 dX8_isIn_13 (by decide) rfl ?_
    refine pr_zreturn dX8_isIn_14 rfl (by first | exact Or.inl rfl | exact Or.inr rfl) ?_
    exact ⟨by grind, rfl⟩
  · refine pr_iload_n 5 dX8_isIn_4 rfl rfl rfl ?_
    refine pr_iload_n 6 dX8_isIn_5 rfl rfl rfl ?_
    refine pr_icmp_ge 13 9 dX8_isIn_6 rfl rfl (fun c_6 => ?_) (fun c_6 => ?_)
    · refine pr_iconst (0) 14 dX8_isIn_13 (by decide) rfl ?_
      refine pr_zreturn dX8_isIn_14 rfl (by first | exact Or.inl rfl | exact Or.inr rfl) ?_
      exact ⟨by grind, rfl⟩
    · refine pr_iconst (1) 10 dX8_isIn_9 (by decide) rfl ?_
      refine pr_goto 14 dX8_isIn_10 rfl ?_
      refine pr_zreturn dX8_isIn_14 rfl (by first | exact Or.inl rfl | exact Or.inr rfl) ?_
      exact ⟨by grind, rfl⟩
set_option maxRecDepth 100000 in
theorem sp_X2_isIdle {mem : pm_M} (L t : Nat) (ht : t < 16) : Cd yX2_isIdle cX2_isIdle 2 (some .boolean) 0 0 [pR 10002902 L, pI (nI t)] mem (some (pI (if mem.1 20016089 L t = 0 then 1 else 0))) mem := by
  refine Cl.of (own := RX2) rfl rfl (Nat.le_of_ble_eq_true rfl) rfl ?_; show PR _ _ _ _ _ _ [some _, some _] _ _ _
  refine pr_aload_n 1 dX2_isIdle_0 rfl rfl rfl ?_
  refine pr_getR0 4 dX2_isIdle_1 fX2_36 rfl ?_
  refine pr_iload_n 5 dX2_isIdle_4 rfl rfl rfl ?_
  refine pr_iaload _ 6 dX2_isIdle_5 rfl rfl rfl (by omega) rfl ?_
  refine pr_if_ne 13 9 dX2_isIdle_6 rfl rfl (fun c_6 => ?_) (fun c_6 => ?_)
  · refine pr_iconst (0) 14 dX2_isIdle_13 (by decide) rfl ?_
    refine pr_zreturn dX2_isIdle_14 rfl (by first | exact Or.inl rfl | exact Or.inr rfl) ?_
    exact ⟨by simp [*], rfl⟩
  · refine pr_iconst (1) 10 dX2_isIdle_9 (by decide) rfl ?_
    refine pr_goto 14 dX2_isIdle_10 rfl ?_
    refine pr_zreturn dX2_isIdle_14 rfl (by first | exact Or.inl rfl | exact Or.inr rfl) ?_
    exact ⟨by simp [*], rfl⟩
set_option maxRecDepth 100000 in
theorem sp_X0_distance {mem : pm_M} (d a b : Nat) (ha : a < 12) (hb : b < 12) : Cd yX0_distance cX0_distance 3 (some .int) 1 22 [pR 10000900 d, pI (nI a), pI (nI b)] mem (some (pI ((if 0 ≤ mem.1 20012006 d a - mem.1 20012006 d b then mem.1 20012006 d a - mem.1 20012006 d b else 0 - (mem.1 20012006 d a - mem.1 20012006 d b)) + (if 0 ≤ mem.1 20012007 d a - mem.1 20012007 d b then mem.1 20012007 d a - mem.1 20012007 d b else 0 - (mem.1 20012007 d a - mem.1 20012007 d b))))) mem := by
  refine Cl.of (own := RX0) rfl rfl (Nat.le_of_ble_eq_true rfl) rfl ?_; show PR _ _ _ _ _ _ [some _, some _, some _] _ _ _
  refine pr_aload_n 1 dX0_distance_0 rfl rfl rfl ?_
  refine pr_getR0 4 dX0_distance_1 fX0_9 rfl ?_
  refine pr_iload_n 5 dX0_distance_4 rfl rfl rfl ?_
  refine pr_iaload _ 6 dX0_distance_5 rfl rfl rfl (by omega) rfl ?_
  refine pr_aload_n 7 dX0_distance_6 rfl rfl rfl ?_
  refine pr_getR0 10 dX0_distance_7 fX0_9 rfl ?_
  refine pr_iload_n 11 dX0_distance_10 rfl rfl rfl ?_
  refine pr_iaload _ 12 dX0_distance_11 rfl rfl rfl (by omega) rfl ?_
  refine pr_isub 13 dX0_distance_12 rfl ?_
  refine pr_mabs 16 dX0_distance_13 jX0_70 jm_abs_s jm_i jm_abs_c (Nat.le_of_ble_eq_true rfl) ⟨Nat.le_of_ble_eq_true rfl, Nat.le_of_ble_eq_true rfl⟩ rfl ?_
  refine pr_aload_n 17 dX0_distance_16 rfl rfl rfl ?_
  refine pr_getR0 20 dX0_distance_17 fX0_15 rfl ?_
  refine pr_iload_n 21 dX0_distance_20 rfl rfl rfl ?_
  refine pr_iaload _ 22 dX0_distance_21 rfl rfl rfl (by omega) rfl ?_
  refine pr_aload_n 23 dX0_distance_22 rfl rfl rfl ?_
  refine pr_getR0 26 dX0_distance_23 fX0_15 rfl ?_
  refine pr_iload_n 27 dX0_distance_26 rfl rfl rfl ?_
  refine pr_iaload _ 28 dX0_distance_27 rfl rfl rfl (by omega) rfl ?_
  refine pr_isub 29 dX0_distance_28 rfl ?_
  refine pr_mabs 32 dX0_distance_29 jX0_70 jm_abs_s jm_i jm_abs_c (Nat.le_of_ble_eq_true rfl) ⟨Nat.le_of_ble_eq_true rfl, Nat.le_of_ble_eq_true rfl⟩ rfl ?_
  refine pr_iadd 33 dX0_distance_32 rfl ?_
  refine pr_ireturn dX0_distance_33 rfl ?_
  exact ⟨rfl, rfl⟩
