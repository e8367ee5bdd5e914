/-! the class: a desk is told -/
section DSK
variable {mem mem0 : pm_M} {d n m : Nat}
set_option maxRecDepth 100000 in
theorem sp_X0_clear : Cd yX0_clear cX0_clear 1 none 0 0 [pR 10000900 d] mem none (pm_uI (pm_uI (pm_uI (pm_uI (pm_uI (pm_uI mem 10000900 d 0 0) 10000900 d 1 0) 10000900 d 2 0) 10000900 d 3 0) 10000900 d 4 0) 10000900 d 5 0) := by
  refine Cl.of (own := RX0) rfl rfl (Nat.le_of_ble_eq_true rfl) rfl ?_; show PR _ _ _ _ _ _ [some _] _ _ _
  refine pr_aload_n 1 dX0_clear_0 rfl rfl rfl ?_
  refine pr_iconst (0) 2 dX0_clear_1 (by decide) rfl ?_
  refine pr_putI 5 dX0_clear_2 fX0_51 rfl ?_
  refine pr_aload_n 6 dX0_clear_5 rfl rfl rfl ?_
  refine pr_iconst (0) 7 dX0_clear_6 (by decide) rfl ?_
  refine pr_putI 10 dX0_clear_7 fX0_55 rfl ?_
  refine pr_aload_n 11 dX0_clear_10 rfl rfl rfl ?_
  refine pr_iconst (0) 12 dX0_clear_11 (by decide) rfl ?_
  refine pr_putI 15 dX0_clear_12 fX0_58 rfl ?_
  refine pr_aload_n 16 dX0_clear_15 rfl rfl rfl ?_
  refine pr_iconst (0) 17 dX0_clear_16 (by decide) rfl ?_
  refine pr_putI 20 dX0_clear_17 fX0_61 rfl ?_
  refine pr_aload_n 21 dX0_clear_20 rfl rfl rfl ?_
  refine pr_iconst (0) 22 dX0_clear_21 (by decide) rfl ?_
  refine pr_putI 25 dX0_clear_22 fX0_64 rfl ?_
  refine pr_aload_n 26 dX0_clear_25 rfl rfl rfl ?_
  refine pr_iconst (0) 27 dX0_clear_26 (by decide) rfl ?_
  refine pr_putI 30 dX0_clear_27 fX0_67 rfl ?_
  refine pr_return dX0_clear_30 rfl ?_
  exact ⟨rfl, rfl⟩
set_option maxRecDepth 100000 in
theorem sp_X0_addPlace (h : mem.1 10000900 d 1 = nI n) (hn : n < 12) (a b : Int32) : Cd yX0_addPlace cX0_addPlace 3 none 0 0 [pR 10000900 d, pI a, pI b] mem none (pm_uI (pm_uI (pm_uI mem 20012006 d n a) 20012007 d n b) 10000900 d 1 (nI (n + 1))) := by
  refine Cl.of (own := RX0) rfl rfl (Nat.le_of_ble_eq_true rfl) rfl ?_; show PR _ _ _ _ _ _ [some _, some _, some _] _ _ _
  refine pr_aload_n 1 dX0_addPlace_0 rfl rfl rfl ?_
  refine pr_getI 4 dX0_addPlace_1 fX0_55 rfl ?_
  rw [h]
  refine pr_bipush (12) 6 dX0_addPlace_4 (by decide) rfl ?_
  refine pr_icmp_ge 39 9 dX0_addPlace_6 rfl rfl (fun c_6 => absurd (c_6) (nI_ge (b := 12) hn (by omega))) (fun c_6 => ?_)
  refine pr_aload_n 10 dX0_addPlace_9 rfl rfl rfl ?_
  refine pr_getR0 13 dX0_addPlace_10 fX0_9 rfl ?_
  refine pr_aload_n 14 dX0_addPlace_13 rfl rfl rfl ?_
  refine pr_getI 17 dX0_addPlace_14 fX0_55 rfl ?_
  rw [h]
  refine pr_iload_n 18 dX0_addPlace_17 rfl rfl rfl ?_
  refine pr_iastore n 19 dX0_addPlace_18 rfl rfl rfl (by omega) rfl ?_
  refine pr_aload_n 20 dX0_addPlace_19 rfl rfl rfl ?_
  refine pr_getR0 23 dX0_addPlace_20 fX0_15 rfl ?_
  refine pr_aload_n 24 dX0_addPlace_23 rfl rfl rfl ?_
  refine pr_getI 27 dX0_addPlace_24 fX0_55 rfl ?_
  rw [pm_gIn (by simp), h]
  refine pr_iload_n 28 dX0_addPlace_27 rfl rfl rfl ?_
  refine pr_iastore n 29 dX0_addPlace_28 rfl rfl rfl (by omega) rfl ?_
  refine pr_aload_n 30 dX0_addPlace_29 rfl rfl rfl ?_
  refine pr_dup rfl 31 dX0_addPlace_30 rfl ?_
  refine pr_getI 34 dX0_addPlace_31 fX0_55 rfl ?_
  rw [pm_gIn (by simp), pm_gIn (by simp), h]
  refine pr_iconst (1) 35 dX0_addPlace_34 (by decide) rfl ?_
  refine pr_iadd 36 dX0_addPlace_35 rfl ?_
  rw [nI_1]
  refine pr_putI 39 dX0_addPlace_36 fX0_55 rfl ?_
  refine pr_return dX0_addPlace_39 rfl ?_
  exact ⟨rfl, rfl⟩
set_option maxRecDepth 100000 in
theorem sp_X0_addTruck (h : mem.1 10000900 d 2 = nI n) (hn : n < 4) (a b : Int32) : Cd yX0_addTruck cX0_addTruck 3 none 0 0 [pR 10000900 d, pI a, pI b] mem none (pm_uI (pm_uI (pm_uI mem 20004008 d n a) 20004009 d n b) 10000900 d 2 (nI (n + 1))) := by
  refine Cl.of (own := RX0) rfl rfl (Nat.le_of_ble_eq_true rfl) rfl ?_; show PR _ _ _ _ _ _ [some _, some _, some _] _ _ _
  refine pr_aload_n 1 dX0_addTruck_0 rfl rfl rfl ?_
  refine pr_getI 4 dX0_addTruck_1 fX0_58 rfl ?_
  rw [h]
  refine pr_iconst (4) 5 dX0_addTruck_4 (by decide) rfl ?_
  refine pr_icmp_ge 38 8 dX0_addTruck_5 rfl rfl (fun c_5 => absurd (c_5) (nI_ge (b := 4) hn (by omega))) (fun c_5 => ?_)
  refine pr_aload_n 9 dX0_addTruck_8 rfl rfl rfl ?_
  refine pr_getR0 12 dX0_addTruck_9 fX0_18 rfl ?_
  refine pr_aload_n 13 dX0_addTruck_12 rfl rfl rfl ?_
  refine pr_getI 16 dX0_addTruck_13 fX0_58 rfl ?_
  rw [h]
  refine pr_iload_n 17 dX0_addTruck_16 rfl rfl rfl ?_
  refine pr_iastore n 18 dX0_addTruck_17 rfl rfl rfl (by omega) rfl ?_
  refine pr_aload_n 19 dX0_addTruck_18 rfl rfl rfl ?_
  refine pr_getR0 22 dX0_addTruck_19 fX0_21 rfl ?_
  refine pr_aload_n 23 dX0_addTruck_22 rfl rfl rfl ?_
  refine pr_getI 26 dX0_addTruck_23 fX0_58 rfl ?_
  rw [pm_gIn (by simp), h]
  refine pr_iload_n 27 dX0_addTruck_26 rfl rfl rfl ?_
  refine pr_iastore n 28 dX0_addTruck_27 rfl rfl rfl (by omega) rfl ?_
  refine pr_aload_n 29 dX0_addTruck_28 rfl rfl rfl ?_
  refine pr_dup rfl 30 dX0_addTruck_29 rfl ?_
  refine pr_getI 33 dX0_addTruck_30 fX0_58 rfl ?_
  rw [pm_gIn (by simp), pm_gIn (by simp), h]
  refine pr_iconst (1) 34 dX0_addTruck_33 (by decide) rfl ?_
  refine pr_iadd 35 dX0_addTruck_34 rfl ?_
  rw [nI_1]
  refine pr_putI 38 dX0_addTruck_35 fX0_58 rfl ?_
  refine pr_return dX0_addTruck_38 rfl ?_
  exact ⟨rfl, rfl⟩
set_option maxRecDepth 100000 in
theorem sp_X0_addLoad (h : mem.1 10000900 d 3 = nI n) (hn : n < 16) (a b c : Int32) : Cd yX0_addLoad cX0_addLoad 4 none 0 0 [pR 10000900 d, pI a, pI b, pI c] mem none (pm_uI (pm_uI (pm_uI (pm_uI mem 20016010 d n a) 20016011 d n b) 20016012 d n c) 10000900 d 3 (nI (n + 1))) := by
  refine Cl.of (own := RX0) rfl rfl (Nat.le_of_ble_eq_true rfl) rfl ?_; show PR _ _ _ _ _ _ [some _, some _, some _, some _] _ _ _
  refine pr_aload_n 1 dX0_addLoad_0 rfl rfl rfl ?_
  refine pr_getI 4 dX0_addLoad_1 fX0_61 rfl ?_
  rw [h]
  refine pr_bipush (16) 6 dX0_addLoad_4 (by decide) rfl ?_
  refine pr_icmp_ge 49 9 dX0_addLoad_6 rfl rfl (fun c_6 => absurd (c_6) (nI_ge (b := 16) hn (by omega))) (fun c_6 => ?_)
  refine pr_aload_n 10 dX0_addLoad_9 rfl rfl rfl ?_
  refine pr_getR0 13 dX0_addLoad_10 fX0_24 rfl ?_
  refine pr_aload_n 14 dX0_addLoad_13 rfl rfl rfl ?_
  refine pr_getI 17 dX0_addLoad_14 fX0_61 rfl ?_
  rw [h]
  refine pr_iload_n 18 dX0_addLoad_17 rfl rfl rfl ?_
  refine pr_iastore n 19 dX0_addLoad_18 rfl rfl rfl (by omega) rfl ?_
  refine pr_aload_n 20 dX0_addLoad_19 rfl rfl rfl ?_
  refine pr_getR0 23 dX0_addLoad_20 fX0_27 rfl ?_
  refine pr_aload_n 24 dX0_addLoad_23 rfl rfl rfl ?_
  refine pr_getI 27 dX0_addLoad_24 fX0_61 rfl ?_
  rw [pm_gIn (by simp), h]
  refine pr_iload_n 28 dX0_addLoad_27 rfl rfl rfl ?_
  refine pr_iastore n 29 dX0_addLoad_28 rfl rfl rfl (by omega) rfl ?_
  refine pr_aload_n 30 dX0_addLoad_29 rfl rfl rfl ?_
  refine pr_getR0 33 dX0_addLoad_30 fX0_30 rfl ?_
  refine pr_aload_n 34 dX0_addLoad_33 rfl rfl rfl ?_
  refine pr_getI 37 dX0_addLoad_34 fX0_61 rfl ?_
  rw [pm_gIn (by simp), pm_gIn (by simp), h]
  refine pr_iload_n 38 dX0_addLoad_37 rfl rfl rfl ?_
  refine pr_iastore n 39 dX0_addLoad_38 rfl rfl rfl (by omega) rfl ?_
  refine pr_aload_n 40 dX0_addLoad_39 rfl rfl rfl ?_
  refine pr_dup rfl 41 dX0_addLoad_40 rfl ?_
  refine pr_getI 44 dX0_addLoad_41 fX0_61 rfl ?_
  rw [pm_gIn (by simp), pm_gIn (by simp), pm_gIn (by simp), h]
  refine pr_iconst (1) 45 dX0_addLoad_44 (by decide) rfl ?_
  refine pr_iadd 46 dX0_addLoad_45 rfl ?_
  rw [nI_1]
  refine pr_putI 49 dX0_addLoad_46 fX0_61 rfl ?_
  refine pr_return dX0_addLoad_49 rfl ?_
  exact ⟨rfl, rfl⟩
set_option maxRecDepth 100000 in
theorem sp_X0_addTrip (h : mem.1 10000900 d 4 = nI n) (hn : n < 16) (hs : mem.1 10000900 d 5 = nI m) (a b c : Int32) : Cd yX0_addTrip cX0_addTrip 4 none 0 0 [pR 10000900 d, pI a, pI b, pI c] mem none (pm_uI (pm_uI (pm_uI (pm_uI (pm_uI mem 20016013 d n a) 20016014 d n b) 20016015 d n c) 20016016 d n (nI m)) 10000900 d 4 (nI (n + 1))) := by
  refine Cl.of (own := RX0) rfl rfl (Nat.le_of_ble_eq_true rfl) rfl ?_; show PR _ _ _ _ _ _ [some _, some _, some _, some _] _ _ _
  refine pr_aload_n 1 dX0_addTrip_0 rfl rfl rfl ?_
  refine pr_getI 4 dX0_addTrip_1 fX0_64 rfl ?_
  rw [h]
  refine pr_bipush (16) 6 dX0_addTrip_4 (by decide) rfl ?_
  refine pr_icmp_ge 62 9 dX0_addTrip_6 rfl rfl (fun c_6 => absurd (c_6) (nI_ge (b := 16) hn (by omega))) (fun c_6 => ?_)
  refine pr_aload_n 10 dX0_addTrip_9 rfl rfl rfl ?_
  refine pr_getR0 13 dX0_addTrip_10 fX0_33 rfl ?_
  refine pr_aload_n 14 dX0_addTrip_13 rfl rfl rfl ?_
  refine pr_getI 17 dX0_addTrip_14 fX0_64 rfl ?_
  rw [h]
  refine pr_iload_n 18 dX0_addTrip_17 rfl rfl rfl ?_
  refine pr_iastore n 19 dX0_addTrip_18 rfl rfl rfl (by omega) rfl ?_
  refine pr_aload_n 20 dX0_addTrip_19 rfl rfl rfl ?_
  refine pr_getR0 23 dX0_addTrip_20 fX0_36 rfl ?_
  refine pr_aload_n 24 dX0_addTrip_23 rfl rfl rfl ?_
  refine pr_getI 27 dX0_addTrip_24 fX0_64 rfl ?_
  rw [pm_gIn (by simp), h]
  refine pr_iload_n 28 dX0_addTrip_27 rfl rfl rfl ?_
  refine pr_iastore n 29 dX0_addTrip_28 rfl rfl rfl (by omega) rfl ?_
  refine pr_aload_n 30 dX0_addTrip_29 rfl rfl rfl ?_
  refine pr_getR0 33 dX0_addTrip_30 fX0_39 rfl ?_
  refine pr_aload_n 34 dX0_addTrip_33 rfl rfl rfl ?_
  refine pr_getI 37 dX0_addTrip_34 fX0_64 rfl ?_
  rw [pm_gIn (by simp), pm_gIn (by simp), h]
  refine pr_iload_n 38 dX0_addTrip_37 rfl rfl rfl ?_
  refine pr_iastore n 39 dX0_addTrip_38 rfl rfl rfl (by omega) rfl ?_
  refine pr_aload_n 40 dX0_addTrip_39 rfl rfl rfl ?_
  refine pr_getR0 43 dX0_addTrip_40 fX0_42 rfl ?_
  refine pr_aload_n 44 dX0_addTrip_43 rfl rfl rfl ?_
  refine pr_getI 47 dX0_addTrip_44 fX0_64 rfl ?_
  rw [pm_gIn (by simp), pm_gIn (by simp), pm_gIn (by simp), h]
  refine pr_aload_n 48 dX0_addTrip_47 rfl rfl rfl ?_
  refine pr_getI 51 dX0_addTrip_48 fX0_67 rfl ?_
  rw [pm_gIn (by simp), pm_gIn (by simp), pm_gIn (by simp), hs]
  refine pr_iastore n 52 dX0_addTrip_51 rfl rfl rfl (by omega) rfl ?_
  refine pr_aload_n 53 dX0_addTrip_52 rfl rfl rfl ?_
  refine pr_dup rfl 54 dX0_addTrip_53 rfl ?_
  refine pr_getI 57 dX0_addTrip_54 fX0_64 rfl ?_
  rw [pm_gIn (by simp), pm_gIn (by simp), pm_gIn (by simp), pm_gIn (by simp), h]
  refine pr_iconst (1) 58 dX0_addTrip_57 (by decide) rfl ?_
  refine pr_iadd 59 dX0_addTrip_58 rfl ?_
  rw [nI_1]
  refine pr_putI 62 dX0_addTrip_59 fX0_64 rfl ?_
  refine pr_return dX0_addTrip_62 rfl ?_
  exact ⟨rfl, rfl⟩
set_option maxRecDepth 100000 in
theorem sp_X0_addStep (h : mem.1 10000900 d 4 = nI (n + 1)) (hn : n < 16) (hs : mem.1 10000900 d 5 = nI m) (hm : m < 200) (a b : Int32) : Cd yX0_addStep cX0_addStep 3 none 0 0 [pR 10000900 d, pI a, pI b] mem none (pm_uI (pm_uI (pm_uI (pm_uI mem 20200017 d m a) 20200018 d m b) 10000900 d 5 (nI (m + 1))) 20016016 d n (nI (m + 1))) := by
  refine Cl.of (own := RX0) rfl rfl (Nat.le_of_ble_eq_true rfl) rfl ?_; show PR _ _ _ _ _ _ [some _, some _, some _] _ _ _
  refine pr_aload_n 1 dX0_addStep_0 rfl rfl rfl ?_
  refine pr_getI 4 dX0_addStep_1 fX0_64 rfl ?_
  rw [h]
  refine pr_if_le 71 7 dX0_addStep_4 rfl rfl (fun c_4 => absurd (c_4) (nI_nle (by omega) (by omega))) (fun c_4 => ?_)
  refine pr_aload_n 8 dX0_addStep_7 rfl rfl rfl ?_
  refine pr_getI 11 dX0_addStep_8 fX0_64 rfl ?_
  rw [h]
  refine pr_bipush (16) 13 dX0_addStep_11 (by decide) rfl ?_
  refine pr_icmp_gt 71 16 dX0_addStep_13 rfl rfl (fun c_13 => absurd (c_13) (nI_nlt (a := 16) (b := n + 1) (by omega) (by omega))) (fun c_13 => ?_)
  refine pr_aload_n 17 dX0_addStep_16 rfl rfl rfl ?_
  refine pr_getI 20 dX0_addStep_17 fX0_67 rfl ?_
  rw [hs]
  refine pr_sipush (200) 23 dX0_addStep_20 (by decide) rfl ?_
  refine pr_icmp_ge 71 26 dX0_addStep_23 rfl rfl (fun c_23 => absurd (c_23) (nI_ge (b := 200) hm (by omega))) (fun c_23 => ?_)
  refine pr_aload_n 27 dX0_addStep_26 rfl rfl rfl ?_
  refine pr_getR0 30 dX0_addStep_27 fX0_45 rfl ?_
  refine pr_aload_n 31 dX0_addStep_30 rfl rfl rfl ?_
  refine pr_getI 34 dX0_addStep_31 fX0_67 rfl ?_
  rw [hs]
  refine pr_iload_n 35 dX0_addStep_34 rfl rfl rfl ?_
  refine pr_iastore m 36 dX0_addStep_35 rfl rfl rfl (by omega) rfl ?_
  refine pr_aload_n 37 dX0_addStep_36 rfl rfl rfl ?_
  refine pr_getR0 40 dX0_addStep_37 fX0_48 rfl ?_
  refine pr_aload_n 41 dX0_addStep_40 rfl rfl rfl ?_
  refine pr_getI 44 dX0_addStep_41 fX0_67 rfl ?_
  rw [pm_gIn (by simp), hs]
  refine pr_iload_n 45 dX0_addStep_44 rfl rfl rfl ?_
  refine pr_iastore m 46 dX0_addStep_45 rfl rfl rfl (by omega) rfl ?_
  refine pr_aload_n 47 dX0_addStep_46 rfl rfl rfl ?_
  refine pr_dup rfl 48 dX0_addStep_47 rfl ?_
  refine pr_getI 51 dX0_addStep_48 fX0_67 rfl ?_
  rw [pm_gIn (by simp), pm_gIn (by simp), hs]
  refine pr_iconst (1) 52 dX0_addStep_51 (by decide) rfl ?_
  refine pr_iadd 53 dX0_addStep_52 rfl ?_
  rw [nI_1]
  refine pr_putI 56 dX0_addStep_53 fX0_67 rfl ?_
  refine pr_aload_n 57 dX0_addStep_56 rfl rfl rfl ?_
  refine pr_getR0 60 dX0_addStep_57 fX0_42 rfl ?_
  refine pr_aload_n 61 dX0_addStep_60 rfl rfl rfl ?_
  refine pr_getI 64 dX0_addStep_61 fX0_64 rfl ?_
  rw [pm_gIn (by simp), pm_gIn (by simp), pm_gIn (by simp), h]
  refine pr_iconst (1) 65 dX0_addStep_64 (by decide) rfl ?_
  refine pr_isub 66 dX0_addStep_65 rfl ?_
  rw [nI_pred]
  refine pr_aload_n 67 dX0_addStep_66 rfl rfl rfl ?_
  refine pr_getI 70 dX0_addStep_67 fX0_67 rfl ?_
  rw [pm_gIe]
  refine pr_iastore n 71 dX0_addStep_70 rfl rfl rfl (by omega) rfl ?_
  refine pr_return dX0_addStep_71 rfl ?_
  exact ⟨rfl, rfl⟩
set_option maxRecDepth 100000 in
theorem sp_X0_firstStep {se : Nat → Nat} (h : ∀ k, k < n → mem.1 20016016 d k = nI (se k)) (hn : n < 16) : Cd yX0_firstStep cX0_firstStep 2 (some .int) 0 0 [pR 10000900 d, pI (nI n)] mem (some (pI (nI (if n = 0 then 0 else se (n - 1))))) mem := by
  refine Cl.of (own := RX0) rfl rfl (Nat.le_of_ble_eq_true rfl) rfl ?_; show PR _ _ _ _ _ _ [some _, some _] _ _ _
  rcases n with _ | n
  · refine pr_iload_n 1 dX0_firstStep_0 rfl rfl rfl ?_
    refine pr_if_le 21 4 dX0_firstStep_1 rfl rfl (fun c_1 => ?_) (fun c_1 => absurd (by decide) (c_1))
    refine pr_iconst (0) 22 dX0_firstStep_21 (by decide) rfl ?_
    refine pr_ireturn dX0_firstStep_22 rfl ?_
    exact ⟨rfl, rfl⟩
  · refine pr_iload_n 1 dX0_firstStep_0 rfl rfl rfl ?_
    refine pr_if_le 21 4 dX0_firstStep_1 rfl rfl (fun c_1 => absurd (c_1) (nI_nle (by omega) (by omega))) (fun c_1 => ?_)
    refine pr_iload_n 5 dX0_firstStep_4 rfl rfl rfl ?_
    refine pr_bipush (16) 7 dX0_firstStep_5 (by decide) rfl ?_
    refine pr_icmp_ge 21 10 dX0_firstStep_7 rfl rfl (fun c_7 => absurd (c_7) (nI_ge (b := 16) hn (by omega))) (fun c_7 => ?_)
    refine pr_aload_n 11 dX0_firstStep_10 rfl rfl rfl ?_
    refine pr_getR0 14 dX0_firstStep_11 fX0_42 rfl ?_
    refine pr_iload_n 15 dX0_firstStep_14 rfl rfl rfl ?_
    refine pr_iconst (1) 16 dX0_firstStep_15 (by decide) rfl ?_
    refine pr_isub 17 dX0_firstStep_16 rfl ?_
    rw [nI_pred]
    refine pr_iaload n 18 dX0_firstStep_17 rfl rfl rfl (by omega) rfl ?_
    rw [h n (by omega)]
    refine pr_goto 22 dX0_firstStep_18 rfl ?_
    refine pr_ireturn dX0_firstStep_22 rfl ?_
    exact ⟨rfl, rfl⟩
end DSK
