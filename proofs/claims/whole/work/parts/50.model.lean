/-! the reference: small methods -/
/-- its row of numbers -/
def rowR (T : Nat) (mem : pm_M) (K : Nat → Nat) : Prop := (∀ k, k < 869 → (k < 4 ∨ 20 ≤ k) → mem.1 T 0 k = nI (K k)) ∧ ∀ t, t < 16 → mem.1 T 0 (4 + t) = nI (K (4 + t)) - 1
theorem ix_its (t w : Nat) : (101 : Int32) + 6 * nI t + nI w = nI (101 + 6 * t + w) := by
  rw [← nI_add, ← nI_add, ← nI_mulN]; rfl
theorem ix_on (t l : Nat) : (197 : Int32) + 16 * nI t + nI l = nI (197 + 16 * t + l) := by
  rw [← nI_add, ← nI_add, ← nI_mulN]; rfl
theorem ix_off (t l : Nat) : (453 : Int32) + 16 * nI t + nI l = nI (453 + 16 * t + l) := by
  rw [← nI_add, ← nI_add, ← nI_mulN]; rfl
section MOD
variable {mem : pm_M} {K w lk : Nat → Nat} {M : Nat} {o : Option Nat}
set_option maxRecDepth 100000 in
theorem sp_X9_isIn (v a b : Int32) : Cd yX9_isIn cX9_isIn 3 (some .boolean) 0 0 [pI v, pI a, pI b] mem (some (pI (if a ≤ v ∧ v ≤ b then 1 else 0))) mem := by
  refine Cl.of (own := RX9) rfl rfl (Nat.le_of_ble_eq_true rfl) rfl ?_; show PR _ _ _ _ _ _ [some _, some _, some _] _ _ _
  refine pr_iload_n 1 dX9_isIn_0 rfl rfl rfl ?_
  refine pr_iload_n 2 dX9_isIn_1 rfl rfl rfl ?_
  refine pr_icmp_lt 14 5 dX9_isIn_2 rfl rfl (fun c_2 => ?_) (fun c_2 => ?_)
  · refine pr_iconst (0) 15 dX9_isIn_14 (by decide) rfl ?_
    refine pr_zreturn dX9_isIn_15 rfl (by first | exact Or.inl rfl | exact Or.inr rfl) ?_
    exact ⟨by grind, rfl⟩
  · refine pr_iload_n 6 dX9_isIn_5 rfl rfl rfl ?_
    refine pr_iload_n 7 dX9_isIn_6 rfl rfl rfl ?_
    refine pr_icmp_gt 14 10 dX9_isIn_7 rfl rfl (fun c_7 => ?_) (fun c_7 => ?_)
    · refine pr_iconst (0) 15 dX9_isIn_14 (by decide) rfl ?_
      refine pr_zreturn dX9_isIn_15 rfl (by first | exact Or.inl rfl | exact Or.inr rfl) ?_
      exact ⟨by grind, rfl⟩
    · refine pr_iconst (1) 11 dX9_isIn_10 (by decide) rfl ?_
      refine pr_goto 15 dX9_isIn_11 rfl ?_
      refine pr_zreturn dX9_isIn_15 rfl (by first | exact Or.inl rfl | exact Or.inr rfl) ?_
      exact ⟨by grind, rfl⟩
set_option maxRecDepth 100000 in
theorem sp_X9_has (s k : Nat) (hk : k < 31) : Cd yX9_has cX9_has 2 (some .boolean) 0 0 [pI (nI s), pI (nI k)] mem (some (pI (if s.testBit k = true then 1 else 0))) mem := by
  have hb := nI_shr1 (w := s) (l := k) hk
  refine Cl.of (own := RX9) rfl rfl (Nat.le_of_ble_eq_true rfl) rfl ?_; show PR _ _ _ _ _ _ [some _, some _] _ _ _
  refine pr_iload_n 1 dX9_has_0 rfl rfl rfl ?_
  refine pr_iload_n 2 dX9_has_1 rfl rfl rfl ?_
  refine pr_ishr 3 dX9_has_2 rfl ?_
  refine pr_iconst (1) 4 dX9_has_3 (by decide) rfl ?_
  refine pr_iand 5 dX9_has_4 rfl ?_
  rw [hb]
  refine pr_iconst (1) 6 dX9_has_5 (by decide) rfl ?_
  refine pr_icmp_ne 13 9 dX9_has_6 rfl rfl (fun c_6 => ?_) (fun c_6 => ?_)
  · refine pr_iconst (0) 14 dX9_has_13 (by decide) rfl ?_
    refine pr_zreturn dX9_has_14 rfl (by first | exact Or.inl rfl | exact Or.inr rfl) ?_
    refine ⟨?_, rfl⟩
    by_cases z : s.testBit k = true
    · first | (rw [if_pos z]; done) | (exfalso; apply c_6; rw [if_pos z]; rfl)
    · first | (rw [if_neg z]; done) | (exfalso; rw [if_neg z] at c_6; exact absurd c_6 (by decide))
  · refine pr_iconst (1) 10 dX9_has_9 (by decide) rfl ?_
    refine pr_goto 14 dX9_has_10 rfl ?_
    refine pr_zreturn dX9_has_14 rfl (by first | exact Or.inl rfl | exact Or.inr rfl) ?_
    refine ⟨?_, rfl⟩
    by_cases z : s.testBit k = true
    · first | (rw [if_pos z]; done) | (exfalso; apply c_6; rw [if_pos z]; rfl)
    · first | (rw [if_neg z]; done) | (exfalso; rw [if_neg z] at c_6; exact absurd c_6 (by decide))
set_option maxRecDepth 100000 in
theorem sp_X9_loads (h : rowR 20869371 mem K) : Cd yX9_loads cX9_loads 1 (some .int) 0 0 [pR 10009909 0] mem (some (pI (nI (K 39)))) mem := by
  refine Cl.of (own := RX9) rfl rfl (Nat.le_of_ble_eq_true rfl) rfl ?_; show PR _ _ _ _ _ _ [some _] _ _ _
  refine pr_aload_n 1 dX9_loads_0 rfl rfl rfl ?_
  refine pr_getR0 4 dX9_loads_1 fX9_64 rfl ?_
  refine pr_bipush (39) 6 dX9_loads_4 (by decide) rfl ?_
  refine pr_iaload 39 7 dX9_loads_6 rfl rfl rfl (by omega) rfl ?_
  rw [h.1 39 (by omega) (by omega)]
  refine pr_ireturn dX9_loads_7 rfl ?_
  exact ⟨rfl, rfl⟩
set_option maxRecDepth 100000 in
theorem sp_X9_trips (h : rowR 20869371 mem K) : Cd yX9_trips cX9_trips 1 (some .int) 0 0 [pR 10009909 0] mem (some (pI (nI (K 40)))) mem := by
  refine Cl.of (own := RX9) rfl rfl (Nat.le_of_ble_eq_true rfl) rfl ?_; show PR _ _ _ _ _ _ [some _] _ _ _
  refine pr_aload_n 1 dX9_trips_0 rfl rfl rfl ?_
  refine pr_getR0 4 dX9_trips_1 fX9_64 rfl ?_
  refine pr_bipush (40) 6 dX9_trips_4 (by decide) rfl ?_
  refine pr_iaload 40 7 dX9_trips_6 rfl rfl rfl (by omega) rfl ?_
  rw [h.1 40 (by omega) (by omega)]
  refine pr_ireturn dX9_trips_7 rfl ?_
  exact ⟨rfl, rfl⟩
set_option maxRecDepth 100000 in
theorem sp_X9_its (h : rowR 20869371 mem K) (t q : Nat) (ht : t < 16) (hq : q < 6) : Cd yX9_its cX9_its 3 (some .int) 0 0 [pR 10009909 0, pI (nI t), pI (nI q)] mem (some (pI (nI (K (101 + 6 * t + q))))) mem := by
  refine Cl.of (own := RX9) rfl rfl (Nat.le_of_ble_eq_true rfl) rfl ?_; show PR _ _ _ _ _ _ [some _, some _, some _] _ _ _
  refine pr_aload_n 1 dX9_its_0 rfl rfl rfl ?_
  refine pr_getR0 4 dX9_its_1 fX9_64 rfl ?_
  refine pr_bipush (101) 6 dX9_its_4 (by decide) rfl ?_
  refine pr_bipush (6) 8 dX9_its_6 (by decide) rfl ?_
  refine pr_iload_n 9 dX9_its_8 rfl rfl rfl ?_
  refine pr_imul 10 dX9_its_9 rfl ?_
  refine pr_iadd 11 dX9_its_10 rfl ?_
  refine pr_iload_n 12 dX9_its_11 rfl rfl rfl ?_
  refine pr_iadd 13 dX9_its_12 rfl ?_
  refine pr_iaload (101 + 6 * t + q) 14 dX9_its_13 rfl rfl (ix_its t q) (by omega) rfl ?_
  rw [h.1 _ (by omega) (by omega)]
  refine pr_ireturn dX9_its_14 rfl ?_
  exact ⟨rfl, rfl⟩
theorem sp_its0 (h : rowR 20869371 mem K) (t : Nat) (ht : t < 16) : Cd yX9_its cX9_its 3 (some .int) 0 0 [pR 10009909 0, pI (nI t), pI 0] mem (some (pI (nI (K (101 + 6 * t))))) mem := by
  have := sp_X9_its h t 0 ht (by omega)
  rw [show 101 + 6 * t + 0 = 101 + 6 * t by omega] at this
  exact this
theorem sp_its1 (h : rowR 20869371 mem K) (t : Nat) (ht : t < 16) : Cd yX9_its cX9_its 3 (some .int) 0 0 [pR 10009909 0, pI (nI t), pI 1] mem (some (pI (nI (K (102 + 6 * t))))) mem := by
  have := sp_X9_its h t 1 ht (by omega)
  rw [show 101 + 6 * t + 1 = 102 + 6 * t by omega] at this
  exact this
theorem sp_its2 (h : rowR 20869371 mem K) (t : Nat) (ht : t < 16) : Cd yX9_its cX9_its 3 (some .int) 0 0 [pR 10009909 0, pI (nI t), pI 2] mem (some (pI (nI (K (103 + 6 * t))))) mem := by
  have := sp_X9_its h t 2 ht (by omega)
  rw [show 101 + 6 * t + 2 = 103 + 6 * t by omega] at this
  exact this
theorem sp_its3 (h : rowR 20869371 mem K) (t : Nat) (ht : t < 16) : Cd yX9_its cX9_its 3 (some .int) 0 0 [pR 10009909 0, pI (nI t), pI 3] mem (some (pI (nI (K (104 + 6 * t))))) mem := by
  have := sp_X9_its h t 3 ht (by omega)
  rw [show 101 + 6 * t + 3 = 104 + 6 * t by omega] at this
  exact this
theorem sp_its4 (h : rowR 20869371 mem K) (t : Nat) (ht : t < 16) : Cd yX9_its cX9_its 3 (some .int) 0 0 [pR 10009909 0, pI (nI t), pI 4] mem (some (pI (nI (K (105 + 6 * t))))) mem := by
  have := sp_X9_its h t 4 ht (by omega)
  rw [show 101 + 6 * t + 4 = 105 + 6 * t by omega] at this
  exact this
theorem sp_its5 (h : rowR 20869371 mem K) (t : Nat) (ht : t < 16) : Cd yX9_its cX9_its 3 (some .int) 0 0 [pR 10009909 0, pI (nI t), pI 5] mem (some (pI (nI (K (106 + 6 * t))))) mem := by
  have := sp_X9_its h t 5 ht (by omega)
  rw [show 101 + 6 * t + 5 = 106 + 6 * t by omega] at this
  exact this
set_option maxRecDepth 100000 in
theorem sp_direct_now (h : rowR 20869371 mem K) (a b : Nat) (ha : a < 12) (hb : b < 12) (h1 : K (41 + a) ≤ 99 ∧ K (53 + a) ≤ 99) (h2 : K (41 + b) ≤ 99 ∧ K (53 + b) ≤ 99) : Cd yX9_directOf cX9_directOf 5 (some .int) 0 0 [pR 20869371 0, pI (nI a), pI (nI b)] mem (some (pI (nI (dd K a b)))) mem := by
  have e1 := abM (a := K (41 + a)) (b := K (41 + b)) (by omega) (by omega)
  have e2 := abM (a := K (53 + a)) (b := K (53 + b)) (by omega) (by omega)
  refine Cl.of (own := RX9) rfl rfl (Nat.le_of_ble_eq_true rfl) rfl ?_; show PR _ _ _ _ _ _ [some _, some _, some _, none, none] _ _ _
  refine pr_aload_n 1 dX9_directOf_0 rfl rfl rfl ?_
  refine pr_bipush (41) 3 dX9_directOf_1 (by decide) rfl ?_
  refine pr_iload_n 4 dX9_directOf_3 rfl rfl rfl ?_
  refine pr_iadd 5 dX9_directOf_4 rfl ?_
  refine pr_iaload (41 + a) 6 dX9_directOf_5 rfl rfl (nI_add 41 a) (by omega) rfl ?_
  rw [h.1 _ (by omega) (by omega)]
  refine pr_aload_n 7 dX9_directOf_6 rfl rfl rfl ?_
  refine pr_bipush (41) 9 dX9_directOf_7 (by decide) rfl ?_
  refine pr_iload_n 10 dX9_directOf_9 rfl rfl rfl ?_
  refine pr_iadd 11 dX9_directOf_10 rfl ?_
  refine pr_iaload (41 + b) 12 dX9_directOf_11 rfl rfl (nI_add 41 b) (by omega) rfl ?_
  rw [h.1 _ (by omega) (by omega)]
  refine pr_isub 13 dX9_directOf_12 rfl ?_
  refine pr_istore_n 14 dX9_directOf_13 rfl (pm_st_3 rfl rfl) rfl ?_
  refine pr_aload_n 15 dX9_directOf_14 rfl rfl rfl ?_
  refine pr_bipush (53) 17 dX9_directOf_15 (by decide) rfl ?_
  refine pr_iload_n 18 dX9_directOf_17 rfl rfl rfl ?_
  refine pr_iadd 19 dX9_directOf_18 rfl ?_
  refine pr_iaload (53 + a) 20 dX9_directOf_19 rfl rfl (nI_add 53 a) (by omega) rfl ?_
  rw [h.1 _ (by omega) (by omega)]
  refine pr_aload_n 21 dX9_directOf_20 rfl rfl rfl ?_
  refine pr_bipush (53) 23 dX9_directOf_21 (by decide) rfl ?_
  refine pr_iload_n 24 dX9_directOf_23 rfl rfl rfl ?_
  refine pr_iadd 25 dX9_directOf_24 rfl ?_
  refine pr_iaload (53 + b) 26 dX9_directOf_25 rfl rfl (nI_add 53 b) (by omega) rfl ?_
  rw [h.1 _ (by omega) (by omega)]
  refine pr_isub 27 dX9_directOf_26 rfl ?_
  refine pr_istore 29 dX9_directOf_27 (pm_st_4 rfl rfl) rfl ?_
  refine pr_iload_n 30 dX9_directOf_29 rfl rfl rfl ?_
  refine pr_if_ge 38 33 dX9_directOf_30 rfl rfl (fun c_30 => ?_) (fun c_30 => ?_)
  · refine pr_iload_n 39 dX9_directOf_38 rfl rfl rfl ?_
    refine pr_iload 41 dX9_directOf_39 rfl rfl ?_
    refine pr_if_ge 50 44 dX9_directOf_41 rfl rfl (fun c_41 => ?_) (fun c_41 => ?_)
    · refine pr_iload 52 dX9_directOf_50 rfl rfl ?_
      refine pr_iadd 53 dX9_directOf_52 rfl ?_
      refine pr_ireturn dX9_directOf_53 rfl ?_
      refine ⟨?_, rfl⟩
      unfold dd
      rw [← nI_add, ← e1, ← e2]
      first | rw [if_neg (by grind), if_neg (by grind)] | rw [if_pos (by grind), if_neg (by grind)] | rw [if_neg (by grind), if_pos (by grind)] | rw [if_pos (by grind), if_pos (by grind)]
    · refine pr_iload 46 dX9_directOf_44 rfl rfl ?_
      refine pr_ineg 47 dX9_directOf_46 rfl ?_
      refine pr_goto 52 dX9_directOf_47 rfl ?_
      refine pr_iadd 53 dX9_directOf_52 rfl ?_
      refine pr_ireturn dX9_directOf_53 rfl ?_
      refine ⟨?_, rfl⟩
      unfold dd
      rw [← nI_add, ← e1, ← e2]
      first | rw [if_neg (by grind), if_neg (by grind)] | rw [if_pos (by grind), if_neg (by grind)] | rw [if_neg (by grind), if_pos (by grind)] | rw [if_pos (by grind), if_pos (by grind)]
  · refine pr_iload_n 34 dX9_directOf_33 rfl rfl rfl ?_
    refine pr_ineg 35 dX9_directOf_34 rfl ?_
    refine pr_goto 39 dX9_directOf_35 rfl ?_
    refine pr_iload 41 dX9_directOf_39 rfl rfl ?_
    refine pr_if_ge 50 44 dX9_directOf_41 rfl rfl (fun c_41 => ?_) (fun c_41 => ?_)
    · refine pr_iload 52 dX9_directOf_50 rfl rfl ?_
      refine pr_iadd 53 dX9_directOf_52 rfl ?_
      refine pr_ireturn dX9_directOf_53 rfl ?_
      refine ⟨?_, rfl⟩
      unfold dd
      rw [← nI_add, ← e1, ← e2]
      first | rw [if_neg (by grind), if_neg (by grind)] | rw [if_pos (by grind), if_neg (by grind)] | rw [if_neg (by grind), if_pos (by grind)] | rw [if_pos (by grind), if_pos (by grind)]
    · refine pr_iload 46 dX9_directOf_44 rfl rfl ?_
      refine pr_ineg 47 dX9_directOf_46 rfl ?_
      refine pr_goto 52 dX9_directOf_47 rfl ?_
      refine pr_iadd 53 dX9_directOf_52 rfl ?_
      refine pr_ireturn dX9_directOf_53 rfl ?_
      refine ⟨?_, rfl⟩
      unfold dd
      rw [← nI_add, ← e1, ← e2]
      first | rw [if_neg (by grind), if_neg (by grind)] | rw [if_pos (by grind), if_neg (by grind)] | rw [if_neg (by grind), if_pos (by grind)] | rw [if_pos (by grind), if_pos (by grind)]
set_option maxRecDepth 100000 in
theorem sp_direct_read (h : rowR 20869372 mem K) (a b : Nat) (ha : a < 12) (hb : b < 12) (h1 : K (41 + a) ≤ 99 ∧ K (53 + a) ≤ 99) (h2 : K (41 + b) ≤ 99 ∧ K (53 + b) ≤ 99) : Cd yX9_directOf cX9_directOf 5 (some .int) 0 0 [pR 20869372 0, pI (nI a), pI (nI b)] mem (some (pI (nI (dd K a b)))) mem := by
  have e1 := abM (a := K (41 + a)) (b := K (41 + b)) (by omega) (by omega)
  have e2 := abM (a := K (53 + a)) (b := K (53 + b)) (by omega) (by omega)
  refine Cl.of (own := RX9) rfl rfl (Nat.le_of_ble_eq_true rfl) rfl ?_; show PR _ _ _ _ _ _ [some _, some _, some _, none, none] _ _ _
  refine pr_aload_n 1 dX9_directOf_0 rfl rfl rfl ?_
  refine pr_bipush (41) 3 dX9_directOf_1 (by decide) rfl ?_
  refine pr_iload_n 4 dX9_directOf_3 rfl rfl rfl ?_
  refine pr_iadd 5 dX9_directOf_4 rfl ?_
  refine pr_iaload (41 + a) 6 dX9_directOf_5 rfl rfl (nI_add 41 a) (by omega) rfl ?_
  rw [h.1 _ (by omega) (by omega)]
  refine pr_aload_n 7 dX9_directOf_6 rfl rfl rfl ?_
  refine pr_bipush (41) 9 dX9_directOf_7 (by decide) rfl ?_
  refine pr_iload_n 10 dX9_directOf_9 rfl rfl rfl ?_
  refine pr_iadd 11 dX9_directOf_10 rfl ?_
  refine pr_iaload (41 + b) 12 dX9_directOf_11 rfl rfl (nI_add 41 b) (by omega) rfl ?_
  rw [h.1 _ (by omega) (by omega)]
  refine pr_isub 13 dX9_directOf_12 rfl ?_
  refine pr_istore_n 14 dX9_directOf_13 rfl (pm_st_3 rfl rfl) rfl ?_
  refine pr_aload_n 15 dX9_directOf_14 rfl rfl rfl ?_
  refine pr_bipush (53) 17 dX9_directOf_15 (by decide) rfl ?_
  refine pr_iload_n 18 dX9_directOf_17 rfl rfl rfl ?_
  refine pr_iadd 19 dX9_directOf_18 rfl ?_
  refine pr_iaload (53 + a) 20 dX9_directOf_19 rfl rfl (nI_add 53 a) (by omega) rfl ?_
  rw [h.1 _ (by omega) (by omega)]
  refine pr_aload_n 21 dX9_directOf_20 rfl rfl rfl ?_
  refine pr_bipush (53) 23 dX9_directOf_21 (by decide) rfl ?_
  refine pr_iload_n 24 dX9_directOf_23 rfl rfl rfl ?_
  refine pr_iadd 25 dX9_directOf_24 rfl ?_
  refine pr_iaload (53 + b) 26 dX9_directOf_25 rfl rfl (nI_add 53 b) (by omega) rfl ?_
  rw [h.1 _ (by omega) (by omega)]
  refine pr_isub 27 dX9_directOf_26 rfl ?_
  refine pr_istore 29 dX9_directOf_27 (pm_st_4 rfl rfl) rfl ?_
  refine pr_iload_n 30 dX9_directOf_29 rfl rfl rfl ?_
  refine pr_if_ge 38 33 dX9_directOf_30 rfl rfl (fun c_30 => ?_) (fun c_30 => ?_)
  · refine pr_iload_n 39 dX9_directOf_38 rfl rfl rfl ?_
    refine pr_iload 41 dX9_directOf_39 rfl rfl ?_
    refine pr_if_ge 50 44 dX9_directOf_41 rfl rfl (fun c_41 => ?_) (fun c_41 => ?_)
    · refine pr_iload 52 dX9_directOf_50 rfl rfl ?_
      refine pr_iadd 53 dX9_directOf_52 rfl ?_
      refine pr_ireturn dX9_directOf_53 rfl ?_
      refine ⟨?_, rfl⟩
      unfold dd
      rw [← nI_add, ← e1, ← e2]
      first | rw [if_neg (by grind), if_neg (by grind)] | rw [if_pos (by grind), if_neg (by grind)] | rw [if_neg (by grind), if_pos (by grind)] | rw [if_pos (by grind), if_pos (by grind)]
    · refine pr_iload 46 dX9_directOf_44 rfl rfl ?_
      refine pr_ineg 47 dX9_directOf_46 rfl ?_
      refine pr_goto 52 dX9_directOf_47 rfl ?_
      refine pr_iadd 53 dX9_directOf_52 rfl ?_
      refine pr_ireturn dX9_directOf_53 rfl ?_
      refine ⟨?_, rfl⟩
      unfold dd
      rw [← nI_add, ← e1, ← e2]
      first | rw [if_neg (by grind), if_neg (by grind)] | rw [if_pos (by grind), if_neg (by grind)] | rw [if_neg (by grind), if_pos (by grind)] | rw [if_pos (by grind), if_pos (by grind)]
  · refine pr_iload_n 34 dX9_directOf_33 rfl rfl rfl ?_
    refine pr_ineg 35 dX9_directOf_34 rfl ?_
    refine pr_goto 39 dX9_directOf_35 rfl ?_
    refine pr_iload 41 dX9_directOf_39 rfl rfl ?_
    refine pr_if_ge 50 44 dX9_directOf_41 rfl rfl (fun c_41 => ?_) (fun c_41 => ?_)
    · refine pr_iload 52 dX9_directOf_50 rfl rfl ?_
      refine pr_iadd 53 dX9_directOf_52 rfl ?_
      refine pr_ireturn dX9_directOf_53 rfl ?_
      refine ⟨?_, rfl⟩
      unfold dd
      rw [← nI_add, ← e1, ← e2]
      first | rw [if_neg (by grind), if_neg (by grind)] | rw [if_pos (by grind), if_neg (by grind)] | rw [if_neg (by grind), if_pos (by grind)] | rw [if_pos (by grind), if_pos (by grind)]
    · refine pr_iload 46 dX9_directOf_44 rfl rfl ?_
      refine pr_ineg 47 dX9_directOf_46 rfl ?_
      refine pr_goto 52 dX9_directOf_47 rfl ?_
      refine pr_iadd 53 dX9_directOf_52 rfl ?_
      refine pr_ireturn dX9_directOf_53 rfl ?_
      refine ⟨?_, rfl⟩
      unfold dd
      rw [← nI_add, ← e1, ← e2]
      first | rw [if_neg (by grind), if_neg (by grind)] | rw [if_pos (by grind), if_neg (by grind)] | rw [if_neg (by grind), if_pos (by grind)] | rw [if_pos (by grind), if_pos (by grind)]
/-- the weights on paper, as the reference has them; o: the load that is out -/
def mwR (mem : pm_M) (w lk : Nat → Nat) (M : Nat) (o : Option Nat) : Prop := mem.1 10009909 0 26 = nI M ∧ mem.1 10009909 0 27 = onI o ∧ (∀ l, l < M → mem.1 20017375 0 l = nI (w l) ∧ mem.1 20017376 0 l = nI (lk l))
/-- what is out weighs nothing -/
def outZ (w : Nat → Nat) (M : Nat) (o : Option Nat) : Prop := ∀ l, o = some l → l < M ∧ w l = 0
theorem onI_eq {l : Nat} (hl : l < 16) (ho : ∀ k, o = some k → k < 16) : nI l = onI o ↔ o = some l := by
  cases o with
  | none =>
    constructor
    · intro h
      have := congrArg Int32.toInt h
      rw [nI_toInt (by omega), show (onI none).toInt = -1 from rfl] at this
      omega
    · intro h; cases h
  | some k =>
    have := ho k rfl
    show nI l = nI k ↔ _
    rw [nI_eq (by omega) (by omega)]
    constructor
    · rintro rfl; rfl
    · intro h; cases h; rfl
set_option maxRecDepth 100000 in
theorem sp_X9_partOf (h : rowR 20869371 mem K) (hW : WF K) (hw : WL K w lk M) (hm : mwR mem w lk M o) (hz : outZ w M o) {t l : Nat} (ht : t < K 40) (hl : l < M) : Cd yX9_partOf cX9_partOf 4 (some .long) 1 24 [pR 10009909 0, pI (nI t), pI (nI l)] mem (some (pJ (lN (ptl K w lk t l)))) mem := by
  have h16 := hW.2.2.2.2.1
  have hn16 := hW.2.2.2.1
  have hM := hw.1
  obtain ⟨w1, w2⟩ := hw.2 l hl
  obtain ⟨m1, m2, m3⟩ := hm
  have ho := onI_eq (o := o) (l := l) (by omega) (fun k hk => by have := (hz k hk).1; omega)
  refine Cl.of (own := RX9) rfl rfl (Nat.le_of_ble_eq_true rfl) rfl ?_; show PR _ _ _ _ _ _ [some _, some _, some _, none] _ _ _
  refine pr_aload_n 1 dX9_partOf_0 rfl rfl rfl ?_
  refine pr_getR0 4 dX9_partOf_1 fX9_76 rfl ?_
  refine pr_iload_n 5 dX9_partOf_4 rfl rfl rfl ?_
  refine pr_iaload l 6 dX9_partOf_5 rfl rfl rfl (by omega) rfl ?_
  rw [(m3 l hl).2]
  refine pr_istore_n 7 dX9_partOf_6 rfl (pm_st_3 rfl rfl) rfl ?_
  refine pr_iload_n 8 dX9_partOf_7 rfl rfl rfl ?_
  refine pr_aload_n 9 dX9_partOf_8 rfl rfl rfl ?_
  refine pr_getI 12 dX9_partOf_9 fX9_179 rfl ?_
  rw [m2]
  refine pr_icmp_eq 28 15 dX9_partOf_12 rfl rfl (fun c_12 => ?_) (fun c_12 => ?_)
  · rw [ho] at c_12
    refine pr_lconst (0) 29 dX9_partOf_28 (by decide) rfl ?_
    refine pr_goto 78 dX9_partOf_29 rfl ?_
    refine pr_lreturn dX9_partOf_78 rfl ?_
    refine ⟨?_, rfl⟩
    have : ptl K w lk t l = 0 := by
      unfold ptl
      rw [(hz l c_12).2]
      split <;> simp
    rw [this]; rfl
  · refine pr_aload_n 16 dX9_partOf_15 rfl rfl rfl ?_
    refine pr_iload_n 17 dX9_partOf_16 rfl rfl rfl ?_
    refine pr_iconst (5) 18 dX9_partOf_17 (by decide) rfl ?_
    refine pr_invD2 21 dX9_partOf_18 vX9_182 mX9_its (sp_its5 h t (by omega)) ⟨Nat.le_of_ble_eq_true rfl, Nat.le_of_ble_eq_true rfl⟩ (Nat.le_of_ble_eq_true rfl) rfl ?_
    refine pr_iload_n 22 dX9_partOf_21 rfl rfl rfl ?_
    refine pr_ivsD2 25 dX9_partOf_22 sX9_132 mX9_has (sp_X9_has _ (lk l) (by omega)) ⟨Nat.le_of_ble_eq_true rfl, Nat.le_of_ble_eq_true rfl⟩ (Nat.le_of_ble_eq_true rfl) rfl ?_
    refine pr_if_ne 32 28 dX9_partOf_25 rfl rfl (fun c_25 => ?_) (fun c_25 => ?_)
    · have hb : (K (106 + 6 * t)).testBit (lk l) = true := Decidable.byContradiction (fun z => c_25 (by rw [if_neg z]))
      obtain ⟨b1, b2, b3⟩ := hW.2.2.2.2.2.2.2.2.2 t (lk l) ht hb
      have hp := hW.2.1
      have hd := dd_le hW (p := K (197 + 16 * t + lk l)) (q := K (453 + 16 * t + lk l)) (by omega) (by omega)
      refine pr_aload_n 33 dX9_partOf_32 rfl rfl rfl ?_
      refine pr_getR0 36 dX9_partOf_33 fX9_73 rfl ?_
      refine pr_iload_n 37 dX9_partOf_36 rfl rfl rfl ?_
      refine pr_iaload l 38 dX9_partOf_37 rfl rfl rfl (by omega) rfl ?_
      rw [(m3 l hl).1]
      refine pr_i2l 39 dX9_partOf_38 rfl ?_
      rw [nI_l (by omega)]
      refine pr_aload_n 40 dX9_partOf_39 rfl rfl rfl ?_
      refine pr_getR0 43 dX9_partOf_40 fX9_64 rfl ?_
      refine pr_aload_n 44 dX9_partOf_43 rfl rfl rfl ?_
      refine pr_getR0 47 dX9_partOf_44 fX9_64 rfl ?_
      refine pr_sipush (197) 50 dX9_partOf_47 (by decide) rfl ?_
      refine pr_bipush (16) 52 dX9_partOf_50 (by decide) rfl ?_
      refine pr_iload_n 53 dX9_partOf_52 rfl rfl rfl ?_
      refine pr_imul 54 dX9_partOf_53 rfl ?_
      refine pr_iadd 55 dX9_partOf_54 rfl ?_
      refine pr_iload_n 56 dX9_partOf_55 rfl rfl rfl ?_
      refine pr_iadd 57 dX9_partOf_56 rfl ?_
      refine pr_iaload (197 + 16 * t + lk l) 58 dX9_partOf_57 rfl rfl (ix_on t (lk l)) (by omega) rfl ?_
      rw [h.1 _ (by omega) (by omega)]
      refine pr_aload_n 59 dX9_partOf_58 rfl rfl rfl ?_
      refine pr_getR0 62 dX9_partOf_59 fX9_64 rfl ?_
      refine pr_sipush (453) 65 dX9_partOf_62 (by decide) rfl ?_
      refine pr_bipush (16) 67 dX9_partOf_65 (by decide) rfl ?_
      refine pr_iload_n 68 dX9_partOf_67 rfl rfl rfl ?_
      refine pr_imul 69 dX9_partOf_68 rfl ?_
      refine pr_iadd 70 dX9_partOf_69 rfl ?_
      refine pr_iload_n 71 dX9_partOf_70 rfl rfl rfl ?_
      refine pr_iadd 72 dX9_partOf_71 rfl ?_
      refine pr_iaload (453 + 16 * t + lk l) 73 dX9_partOf_72 rfl rfl (ix_off t (lk l)) (by omega) rfl ?_
      rw [h.1 _ (by omega) (by omega)]
      refine pr_ivsD3 76 dX9_partOf_73 sX9_128 mX9_directOf (sp_direct_now h _ _ (by omega) (by omega) (hW.2.2.2.2.2.2.1 _ (by omega)) (hW.2.2.2.2.2.2.1 _ (by omega))) ⟨Nat.le_of_ble_eq_true rfl, Nat.le_of_ble_eq_true rfl⟩ (Nat.le_of_ble_eq_true rfl) rfl ?_
      refine pr_i2l 77 dX9_partOf_76 rfl ?_
      rw [nI_l (by omega)]
      refine pr_lmul 78 dX9_partOf_77 rfl ?_
      rw [lN_mul]
      refine pr_lreturn dX9_partOf_78 rfl ?_
      refine ⟨?_, rfl⟩
      first
        | (have : ptl K w lk t l = 0 := by
             unfold ptl
             rw [if_neg hb]
           rw [this]; rfl)
        | (unfold ptl
           rw [if_pos hb])
    · have hb : ¬ (K (106 + 6 * t)).testBit (lk l) = true := fun z => by
        rw [if_pos z] at c_25
        exact absurd c_25 (by decide)
      refine pr_lconst (0) 29 dX9_partOf_28 (by decide) rfl ?_
      refine pr_goto 78 dX9_partOf_29 rfl ?_
      refine pr_lreturn dX9_partOf_78 rfl ?_
      refine ⟨?_, rfl⟩
      first
        | (have : ptl K w lk t l = 0 := by
             unfold ptl
             rw [if_neg hb]
           rw [this]; rfl)
        | (unfold ptl
           rw [if_pos hb])
set_option maxRecDepth 100000 in
theorem sp_X9_partsOf (h : rowR 20869371 mem K) (hW : WF K) (hw : WL K w lk M) (hm : mwR mem w lk M o) (hz : outZ w M o) {t : Nat} (ht : t < K 40) : Cd yX9_partsOf cX9_partsOf 5 (some .long) 2 47 [pR 10009909 0, pI (nI t)] mem (some (pJ (lN (pts K w lk M t)))) mem := by
  have hM := hw.1
  have lp : ∀ j k, k + j = M → PR cX9_partsOf RX9 5 2 47 5 [some (pR 10009909 0), some (pI (nI t)), some (pJ (lN (sm (ptl K w lk t) k))), none, some (pI (nI k))] [] mem (pm_RX cX9_partsOf (some .long) (fun r' m' => r' = some (pJ (lN (pts K w lk M t))) ∧ m' = mem)) := by
    intro j
    induction j with
    | zero =>
      intro k hj
      have e : M = k := by omega
      subst e
      refine pr_iload 7 dX9_partsOf_5 rfl rfl ?_
      refine pr_aload_n 8 dX9_partsOf_7 rfl rfl rfl ?_
      refine pr_getI 11 dX9_partsOf_8 fX9_176 rfl ?_
      rw [hm.1]
      refine pr_icmp_ge 30 14 dX9_partsOf_11 rfl rfl (fun c_11 => ?_) (fun c_11 => absurd (Int32.le_refl _) (c_11))
      refine pr_lload_n 31 dX9_partsOf_30 rfl rfl rfl ?_
      refine pr_lreturn dX9_partsOf_31 rfl ?_
      exact ⟨rfl, rfl⟩
    | succ j ih =>
      intro k hj
      refine pr_iload 7 dX9_partsOf_5 rfl rfl ?_
      refine pr_aload_n 8 dX9_partsOf_7 rfl rfl rfl ?_
      refine pr_getI 11 dX9_partsOf_8 fX9_176 rfl ?_
      rw [hm.1]
      refine pr_icmp_ge 30 14 dX9_partsOf_11 rfl rfl (fun c_11 => absurd (c_11) (nI_ge (by omega) (by omega))) (fun c_11 => ?_)
      refine pr_lload_n 15 dX9_partsOf_14 rfl rfl rfl ?_
      refine pr_aload_n 16 dX9_partsOf_15 rfl rfl rfl ?_
      refine pr_iload_n 17 dX9_partsOf_16 rfl rfl rfl ?_
      refine pr_iload 19 dX9_partsOf_17 rfl rfl ?_
      refine pr_invD2 22 dX9_partsOf_19 vX9_186 mX9_partOf (sp_X9_partOf h hW hw hm hz ht (l := k) (by omega)) ⟨Nat.le_of_ble_eq_true rfl, Nat.le_of_ble_eq_true rfl⟩ (Nat.le_of_ble_eq_true rfl) rfl ?_
      refine pr_ladd 23 dX9_partsOf_22 rfl ?_
      rw [lN_add]
      refine pr_lstore_n 24 dX9_partsOf_23 rfl (pm_st2_2 rfl) rfl ?_
      refine pr_iinc 27 dX9_partsOf_24 rfl (by first | exact pm_inc _ | rfl) (pm_st_4 rfl rfl) rfl ?_
      refine pr_goto 5 dX9_partsOf_27 rfl ?_
      exact ih (k + 1) (by omega)
  refine Cl.of (own := RX9) rfl rfl (Nat.le_of_ble_eq_true rfl) rfl ?_; show PR _ _ _ _ _ _ [some _, some _, none, none, none] _ _ _
  refine pr_lconst (0) 1 dX9_partsOf_0 (by decide) rfl ?_
  refine pr_lstore_n 2 dX9_partsOf_1 rfl (pm_st2_2 rfl) rfl ?_
  refine pr_iconst (0) 3 dX9_partsOf_2 (by decide) rfl ?_
  refine pr_istore 5 dX9_partsOf_3 (pm_st_4 rfl rfl) rfl ?_
  exact lp M 0 (by omega)
set_option maxRecDepth 100000 in
theorem sp_X9_isIdle (h : rowR 20869371 mem K) (hW : WF K) (hw : WL K w lk M) (hm : mwR mem w lk M o) (hz : outZ w M o) {t : Nat} (ht : t < K 40) : Cd yX9_isIdle cX9_isIdle 2 (some .boolean) 3 71 [pR 10009909 0, pI (nI t)] mem (some (pI (if idl K w lk M t = true then 1 else 0))) mem := by
  have hp := pts_le hW hw ht
  have hc := lcz (s := pts K w lk M t) (by omega)
  refine Cl.of (own := RX9) rfl rfl (Nat.le_of_ble_eq_true rfl) rfl ?_; show PR _ _ _ _ _ _ [some _, some _] _ _ _
  refine pr_aload_n 1 dX9_isIdle_0 rfl rfl rfl ?_
  refine pr_iload_n 2 dX9_isIdle_1 rfl rfl rfl ?_
  refine pr_invD1 5 dX9_isIdle_2 vX9_202 mX9_partsOf (sp_X9_partsOf h hW hw hm hz ht) ⟨Nat.le_of_ble_eq_true rfl, Nat.le_of_ble_eq_true rfl⟩ (Nat.le_of_ble_eq_true rfl) rfl ?_
  refine pr_lconst (0) 6 dX9_isIdle_5 (by decide) rfl ?_
  refine pr_lcmp 7 dX9_isIdle_6 rfl ?_
  refine pr_if_ne 14 10 dX9_isIdle_7 rfl rfl (fun c_7 => ?_) (fun c_7 => ?_)
  · rw [hc] at c_7
    refine pr_iconst (0) 15 dX9_isIdle_14 (by decide) rfl ?_
    refine pr_zreturn dX9_isIdle_15 rfl (by first | exact Or.inl rfl | exact Or.inr rfl) ?_
    exact ⟨by simp [idl, c_7], rfl⟩
  · rw [hc] at c_7
    refine pr_iconst (1) 11 dX9_isIdle_10 (by decide) rfl ?_
    refine pr_goto 15 dX9_isIdle_11 rfl ?_
    refine pr_zreturn dX9_isIdle_15 rfl (by first | exact Or.inl rfl | exact Or.inr rfl) ?_
    exact ⟨by simp [idl, c_7], rfl⟩
set_option maxRecDepth 100000 in
theorem sp_X9_estimateOf (h : rowR 20869371 mem K) (hW : WF K) {t : Nat} (ht : t < K 40) : Cd yX9_estimateOf cX9_estimateOf 3 (some .int) 1 22 [pR 10009909 0, pI (nI t)] mem (some (pI (nI (est K t)))) mem := by
  have h16 := hW.2.2.2.2.1
  obtain ⟨-, -, h3, -, h5, h6, -, -, h9, -⟩ := hW
  obtain ⟨a1, a2, a3, -⟩ := h9 t ht
  have hu := (h6 (K (101 + 6 * t)) (by omega)).2
  have hmul : K (65 + K (101 + 6 * t)) * K (102 + 6 * t) ≤ 999 * 39600 := Nat.mul_le_mul hu a3
  refine Cl.of (own := RX9) rfl rfl (Nat.le_of_ble_eq_true rfl) rfl ?_; show PR _ _ _ _ _ _ [some _, some _, none] _ _ _
  refine pr_aload_n 1 dX9_estimateOf_0 rfl rfl rfl ?_
  refine pr_getR0 4 dX9_estimateOf_1 fX9_64 rfl ?_
  refine pr_iconst (4) 5 dX9_estimateOf_4 (by decide) rfl ?_
  refine pr_iload_n 6 dX9_estimateOf_5 rfl rfl rfl ?_
  refine pr_iadd 7 dX9_estimateOf_6 rfl ?_
  refine pr_iaload (4 + t) 8 dX9_estimateOf_7 rfl rfl (nI_add 4 t) (by omega) rfl ?_
  rw [h.2 t (by omega)]
  refine pr_istore_n 9 dX9_estimateOf_8 rfl (pm_st_2 rfl rfl) rfl ?_
  refine pr_iload_n 10 dX9_estimateOf_9 rfl rfl rfl ?_
  refine pr_iconst (-1) 11 dX9_estimateOf_10 (by decide) rfl ?_
  refine pr_icmp_eq 18 14 dX9_estimateOf_11 rfl rfl (fun c_11 => ?_) (fun c_11 => ?_)
  · refine pr_aload_n 19 dX9_estimateOf_18 rfl rfl rfl ?_
    refine pr_getR0 22 dX9_estimateOf_19 fX9_64 rfl ?_
    refine pr_bipush (65) 24 dX9_estimateOf_22 (by decide) rfl ?_
    refine pr_aload_n 25 dX9_estimateOf_24 rfl rfl rfl ?_
    refine pr_iload_n 26 dX9_estimateOf_25 rfl rfl rfl ?_
    refine pr_iconst (0) 27 dX9_estimateOf_26 (by decide) rfl ?_
    refine pr_invD2 30 dX9_estimateOf_27 vX9_182 mX9_its (sp_its0 h t (by omega)) ⟨Nat.le_of_ble_eq_true rfl, Nat.le_of_ble_eq_true rfl⟩ (Nat.le_of_ble_eq_true rfl) rfl ?_
    refine pr_iadd 31 dX9_estimateOf_30 rfl ?_
    refine pr_iaload (65 + K (101 + 6 * t)) 32 dX9_estimateOf_31 rfl rfl (nI_add 65 _) (by omega) rfl ?_
    rw [h.1 _ (by omega) (by omega)]
    refine pr_aload_n 33 dX9_estimateOf_32 rfl rfl rfl ?_
    refine pr_iload_n 34 dX9_estimateOf_33 rfl rfl rfl ?_
    refine pr_iconst (1) 35 dX9_estimateOf_34 (by decide) rfl ?_
    refine pr_invD2 38 dX9_estimateOf_35 vX9_182 mX9_its (sp_its1 h t (by omega)) ⟨Nat.le_of_ble_eq_true rfl, Nat.le_of_ble_eq_true rfl⟩ (Nat.le_of_ble_eq_true rfl) rfl ?_
    refine pr_imul 39 dX9_estimateOf_38 rfl ?_
    rw [nI_mulN]
    refine pr_bipush (99) 41 dX9_estimateOf_39 (by decide) rfl ?_
    refine pr_iadd 42 dX9_estimateOf_41 rfl ?_
    rw [show (99 : Int32) = nI 99 from rfl, nI_add]
    refine pr_bipush (100) 44 dX9_estimateOf_42 (by decide) rfl ?_
    refine pr_idiv (by decide) 45 dX9_estimateOf_44 rfl ?_
    rw [show (100 : Int32) = nI 100 from rfl, nI_divN (by omega) (by omega)]
    refine pr_ireturn dX9_estimateOf_45 rfl ?_
    refine ⟨?_, rfl⟩
    rw [fuI a1] at c_11
    unfold est
    first | rw [if_neg c_11, fuV c_11] | rw [if_pos c_11]
  · refine pr_iload_n 15 dX9_estimateOf_14 rfl rfl rfl ?_
    refine pr_goto 45 dX9_estimateOf_15 rfl ?_
    refine pr_ireturn dX9_estimateOf_45 rfl ?_
    refine ⟨?_, rfl⟩
    rw [fuI a1] at c_11
    unfold est
    first | rw [if_neg c_11, fuV c_11] | rw [if_pos c_11]
set_option maxRecDepth 100000 in
theorem sp_X9_nextOf (h : rowR 20869371 mem K) (hW : WF K) (hw : WL K w lk M) (hm : mwR mem w lk M o) (hz : outZ w M o) {t : Nat} (ht : t < K 40) : Cd yX9_nextOf cX9_nextOf 3 (some .int) 4 92 [pR 10009909 0, pI (nI t)] mem (some (pI (onI (hr K w lk M t)))) mem := by
  have h16 := hW.2.2.2.2.1
  have h4 := hW.2.2.1
  have ho : ∀ u, u < K 40 → K (101 + 6 * u) < 4 := fun u hu => by have := (hW.2.2.2.2.2.2.2.2.1 u hu).2.1; omega
  have hot := ho t ht
  have hidl : ∀ u, (if idl K w lk M u = true then (1 : Int32) else 0) = 0 ↔ ¬ idl K w lk M u = true := fun u => by
    by_cases z : idl K w lk M u = true <;> simp [z]
  have lp2 : bk (fun u => decide (K (101 + 6 * u) = K (101 + 6 * t)) && !idl K w lk M u) t = none → ∀ n u, u + n = K 40 → fw (fun u => decide (K (101 + 6 * u) = K (101 + 6 * t)) && !idl K w lk M u) (K 40 - (t + 1)) (t + 1) = fw (fun u => decide (K (101 + 6 * u) = K (101 + 6 * t)) && !idl K w lk M u) n u → PR cX9_nextOf RX9 3 4 92 43 [some (pR 10009909 0), some (pI (nI t)), some (pI (nI u))] [] mem (pm_RX cX9_nextOf (some .int) (fun r' m' => r' = some (pI (onI (hr K w lk M t))) ∧ m' = mem)) := by
    intro hb n
    induction n with
    | zero =>
      intro u hu he
      have e : u = K 40 := by omega
      subst e
      refine pr_iload_n 44 dX9_nextOf_43 rfl rfl rfl ?_
      refine pr_aload_n 45 dX9_nextOf_44 rfl rfl rfl ?_
      refine pr_invD0 48 dX9_nextOf_45 vX9_173 mX9_trips (sp_X9_trips h) ⟨Nat.le_of_ble_eq_true rfl, Nat.le_of_ble_eq_true rfl⟩ (Nat.le_of_ble_eq_true rfl) rfl ?_
      refine pr_icmp_ge 82 51 dX9_nextOf_48 rfl rfl (fun c_48 => ?_) (fun c_48 => absurd (Int32.le_refl _) (c_48))
      refine pr_iconst (-1) 83 dX9_nextOf_82 (by decide) rfl ?_
      refine pr_ireturn dX9_nextOf_83 rfl ?_
      refine ⟨?_, rfl⟩
      unfold hr
      rw [hb]
      simp only [he]
      rfl
    | succ n ih =>
      intro u hu he
      have hou := ho u (by omega)
      refine pr_iload_n 44 dX9_nextOf_43 rfl rfl rfl ?_
      refine pr_aload_n 45 dX9_nextOf_44 rfl rfl rfl ?_
      refine pr_invD0 48 dX9_nextOf_45 vX9_173 mX9_trips (sp_X9_trips h) ⟨Nat.le_of_ble_eq_true rfl, Nat.le_of_ble_eq_true rfl⟩ (Nat.le_of_ble_eq_true rfl) rfl ?_
      refine pr_icmp_ge 82 51 dX9_nextOf_48 rfl rfl (fun c_48 => absurd (c_48) (nI_ge (by omega) (by omega))) (fun c_48 => ?_)
      refine pr_aload_n 52 dX9_nextOf_51 rfl rfl rfl ?_
      refine pr_iload_n 53 dX9_nextOf_52 rfl rfl rfl ?_
      refine pr_iconst (0) 54 dX9_nextOf_53 (by decide) rfl ?_
      refine pr_invD2 57 dX9_nextOf_54 vX9_182 mX9_its (sp_its0 h u (by omega)) ⟨Nat.le_of_ble_eq_true rfl, Nat.le_of_ble_eq_true rfl⟩ (Nat.le_of_ble_eq_true rfl) rfl ?_
      refine pr_aload_n 58 dX9_nextOf_57 rfl rfl rfl ?_
      refine pr_iload_n 59 dX9_nextOf_58 rfl rfl rfl ?_
      refine pr_iconst (0) 60 dX9_nextOf_59 (by decide) rfl ?_
      refine pr_invD2 63 dX9_nextOf_60 vX9_182 mX9_its (sp_its0 h t (by omega)) ⟨Nat.le_of_ble_eq_true rfl, Nat.le_of_ble_eq_true rfl⟩ (Nat.le_of_ble_eq_true rfl) rfl ?_
      refine pr_icmp_ne 76 66 dX9_nextOf_63 rfl rfl (fun c_63 => ?_) (fun c_63 => ?_)
      · rw [nI_eq (by omega) (by omega)] at c_63
        refine pr_iinc 79 dX9_nextOf_76 rfl (by first | exact pm_inc _ | rfl) (pm_st_2 rfl rfl) rfl ?_
        refine pr_goto 43 dX9_nextOf_79 rfl ?_
        refine ih (u + 1) (by omega) ?_
        rw [he, fw, if_neg (by simp [c_63])]
      · rw [nI_eq (by omega) (by omega)] at c_63
        refine pr_aload_n 67 dX9_nextOf_66 rfl rfl rfl ?_
        refine pr_iload_n 68 dX9_nextOf_67 rfl rfl rfl ?_
        refine pr_invD1 71 dX9_nextOf_68 vX9_206 mX9_isIdle (sp_X9_isIdle h hW hw hm hz (t := u) (by omega)) ⟨Nat.le_of_ble_eq_true rfl, Nat.le_of_ble_eq_true rfl⟩ (Nat.le_of_ble_eq_true rfl) rfl ?_
        refine pr_if_ne 76 74 dX9_nextOf_71 rfl rfl (fun c_71 => ?_) (fun c_71 => ?_)
        · rw [hidl, Decidable.not_not] at c_71
          refine pr_iinc 79 dX9_nextOf_76 rfl (by first | exact pm_inc _ | rfl) (pm_st_2 rfl rfl) rfl ?_
          refine pr_goto 43 dX9_nextOf_79 rfl ?_
          refine ih (u + 1) (by omega) ?_
          rw [he, fw, if_neg (by simp [c_71])]
        · rw [hidl] at c_71
          refine pr_iload_n 75 dX9_nextOf_74 rfl rfl rfl ?_
          refine pr_ireturn dX9_nextOf_75 rfl ?_
          refine ⟨?_, rfl⟩
          unfold hr
          rw [hb]
          simp only [he]
          rw [fw, if_pos (by simp [c_63, c_71])]
          rfl
  have lp1 : ∀ u, u ≤ t → bk (fun u => decide (K (101 + 6 * u) = K (101 + 6 * t)) && !idl K w lk M u) t = bk (fun u => decide (K (101 + 6 * u) = K (101 + 6 * t)) && !idl K w lk M u) u → PR cX9_nextOf RX9 3 4 92 4 [some (pR 10009909 0), some (pI (nI t)), some (pI (nI u - 1))] [] mem (pm_RX cX9_nextOf (some .int) (fun r' m' => r' = some (pI (onI (hr K w lk M t))) ∧ m' = mem)) := by
    intro u
    induction u with
    | zero =>
      intro _ he
      refine pr_iload_n 5 dX9_nextOf_4 rfl rfl rfl ?_
      refine pr_if_lt 39 8 dX9_nextOf_5 rfl rfl (fun c_5 => ?_) (fun c_5 => absurd (by decide) (c_5))
      refine pr_iload_n 40 dX9_nextOf_39 rfl rfl rfl ?_
      refine pr_iconst (1) 41 dX9_nextOf_40 (by decide) rfl ?_
      refine pr_iadd 42 dX9_nextOf_41 rfl ?_
      rw [show (1 : Int32) = nI 1 from rfl, nI_add]
      refine pr_istore_n 43 dX9_nextOf_42 rfl (pm_st_2 rfl rfl) rfl ?_
      exact lp2 (by rw [he]; rfl) (K 40 - (t + 1)) (t + 1) (by omega) rfl
    | succ u ih =>
      intro hu he
      rw [nI_pred]
      have hou := ho u (by omega)
      refine pr_iload_n 5 dX9_nextOf_4 rfl rfl rfl ?_
      refine pr_if_lt 39 8 dX9_nextOf_5 rfl rfl (fun c_5 => absurd (c_5) (nI_pos (by omega))) (fun c_5 => ?_)
      refine pr_aload_n 9 dX9_nextOf_8 rfl rfl rfl ?_
      refine pr_iload_n 10 dX9_nextOf_9 rfl rfl rfl ?_
      refine pr_iconst (0) 11 dX9_nextOf_10 (by decide) rfl ?_
      refine pr_invD2 14 dX9_nextOf_11 vX9_182 mX9_its (sp_its0 h u (by omega)) ⟨Nat.le_of_ble_eq_true rfl, Nat.le_of_ble_eq_true rfl⟩ (Nat.le_of_ble_eq_true rfl) rfl ?_
      refine pr_aload_n 15 dX9_nextOf_14 rfl rfl rfl ?_
      refine pr_iload_n 16 dX9_nextOf_15 rfl rfl rfl ?_
      refine pr_iconst (0) 17 dX9_nextOf_16 (by decide) rfl ?_
      refine pr_invD2 20 dX9_nextOf_17 vX9_182 mX9_its (sp_its0 h t (by omega)) ⟨Nat.le_of_ble_eq_true rfl, Nat.le_of_ble_eq_true rfl⟩ (Nat.le_of_ble_eq_true rfl) rfl ?_
      refine pr_icmp_ne 33 23 dX9_nextOf_20 rfl rfl (fun c_20 => ?_) (fun c_20 => ?_)
      · rw [nI_eq (by omega) (by omega)] at c_20
        refine pr_iinc 36 dX9_nextOf_33 rfl (Int32.sub_eq_add_neg (nI u) 1).symm (pm_st_2 rfl rfl) rfl ?_
        refine pr_goto 4 dX9_nextOf_36 rfl ?_
        refine ih (by omega) ?_
        rw [he, bk, if_neg (by simp [c_20])]
      · rw [nI_eq (by omega) (by omega)] at c_20
        refine pr_aload_n 24 dX9_nextOf_23 rfl rfl rfl ?_
        refine pr_iload_n 25 dX9_nextOf_24 rfl rfl rfl ?_
        refine pr_invD1 28 dX9_nextOf_25 vX9_206 mX9_isIdle (sp_X9_isIdle h hW hw hm hz (t := u) (by omega)) ⟨Nat.le_of_ble_eq_true rfl, Nat.le_of_ble_eq_true rfl⟩ (Nat.le_of_ble_eq_true rfl) rfl ?_
        refine pr_if_ne 33 31 dX9_nextOf_28 rfl rfl (fun c_28 => ?_) (fun c_28 => ?_)
        · rw [hidl, Decidable.not_not] at c_28
          refine pr_iinc 36 dX9_nextOf_33 rfl (Int32.sub_eq_add_neg (nI u) 1).symm (pm_st_2 rfl rfl) rfl ?_
          refine pr_goto 4 dX9_nextOf_36 rfl ?_
          refine ih (by omega) ?_
          rw [he, bk, if_neg (by simp [c_28])]
        · rw [hidl] at c_28
          refine pr_iload_n 32 dX9_nextOf_31 rfl rfl rfl ?_
          refine pr_ireturn dX9_nextOf_32 rfl ?_
          refine ⟨?_, rfl⟩
          unfold hr
          rw [he, bk, if_pos (by simp [c_20, c_28])]
          rfl
  refine Cl.of (own := RX9) rfl rfl (Nat.le_of_ble_eq_true rfl) rfl ?_; show PR _ _ _ _ _ _ [some _, some _, none] _ _ _
  refine pr_iload_n 1 dX9_nextOf_0 rfl rfl rfl ?_
  refine pr_iconst (1) 2 dX9_nextOf_1 (by decide) rfl ?_
  refine pr_isub 3 dX9_nextOf_2 rfl ?_
  refine pr_istore_n 4 dX9_nextOf_3 rfl (pm_st_2 rfl rfl) rfl ?_
  exact lp1 t (Nat.le_refl _) rfl
end MOD
