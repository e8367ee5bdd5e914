/-! the class: a step's word, or the end of a trip's line -/
section TST
variable {mem : pm_M} {T p on ln : Nat} {B : Nat → Nat}
set_option maxRecDepth 100000 in
theorem sp_takeStepW (h : ctk mem B T p) (hw : mem.1 10004904 0 9 = -1) (hk : tK B T p = 11 ∨ tK B T p = 12 ∨ tK B T p = 13) : Cd yX4_takeStep cX4_takeStep 1 (some .boolean) 3 63 [pR 10004904 0] mem (some (pI 1)) (pm_uI mem 10004904 0 9 (nI (tK B T p))) := by
  refine Cl.of (own := RX4) rfl rfl (Nat.le_of_ble_eq_true rfl) rfl ?_; show PR _ _ _ _ _ _ [some _] _ _ _
  rcases hk with k | k | k
  · have hk := h.1
    rw [k] at hk ⊢
    refine pr_aload_n 1 dX4_takeStep_0 rfl rfl rfl ?_
    refine pr_getI 4 dX4_takeStep_1 fX4_103 rfl ?_
    rw [hw]
    refine pr_iconst (-1) 5 dX4_takeStep_4 (by decide) rfl ?_
    refine pr_icmp_eq 13 8 dX4_takeStep_5 rfl rfl (fun c_5 => ?_) (fun c_5 => absurd (rfl) (c_5))
    refine pr_aload_n 14 dX4_takeStep_13 rfl rfl rfl ?_
    refine pr_getR0 17 dX4_takeStep_14 fX4_20 rfl ?_
    refine pr_getI 20 dX4_takeStep_17 fX4_52 rfl ?_
    rw [hk]
    refine pr_lookup (off := 44) 64 dX4_takeStep_20 (by decide) (by decide) rfl ?_
    refine pr_aload_n 65 dX4_takeStep_64 rfl rfl rfl ?_
    refine pr_aload_n 66 dX4_takeStep_65 rfl rfl rfl ?_
    refine pr_getR0 69 dX4_takeStep_66 fX4_20 rfl ?_
    refine pr_getI 72 dX4_takeStep_69 fX4_52 rfl ?_
    rw [hk]
    refine pr_putI 75 dX4_takeStep_72 fX4_103 rfl ?_
    refine pr_iconst (1) 76 dX4_takeStep_75 (by decide) rfl ?_
    refine pr_zreturn dX4_takeStep_76 rfl (by first | exact Or.inl rfl | exact Or.inr rfl) ?_
    exact ⟨rfl, rfl⟩
  · have hk := h.1
    rw [k] at hk ⊢
    refine pr_aload_n 1 dX4_takeStep_0 rfl rfl rfl ?_
    refine pr_getI 4 dX4_takeStep_1 fX4_103 rfl ?_
    rw [hw]
    refine pr_iconst (-1) 5 dX4_takeStep_4 (by decide) rfl ?_
    refine pr_icmp_eq 13 8 dX4_takeStep_5 rfl rfl (fun c_5 => ?_) (fun c_5 => absurd (rfl) (c_5))
    refine pr_aload_n 14 dX4_takeStep_13 rfl rfl rfl ?_
    refine pr_getR0 17 dX4_takeStep_14 fX4_20 rfl ?_
    refine pr_getI 20 dX4_takeStep_17 fX4_52 rfl ?_
    rw [hk]
    refine pr_lookup (off := 44) 64 dX4_takeStep_20 (by decide) (by decide) rfl ?_
    refine pr_aload_n 65 dX4_takeStep_64 rfl rfl rfl ?_
    refine pr_aload_n 66 dX4_takeStep_65 rfl rfl rfl ?_
    refine pr_getR0 69 dX4_takeStep_66 fX4_20 rfl ?_
    refine pr_getI 72 dX4_takeStep_69 fX4_52 rfl ?_
    rw [hk]
    refine pr_putI 75 dX4_takeStep_72 fX4_103 rfl ?_
    refine pr_iconst (1) 76 dX4_takeStep_75 (by decide) rfl ?_
    refine pr_zreturn dX4_takeStep_76 rfl (by first | exact Or.inl rfl | exact Or.inr rfl) ?_
    exact ⟨rfl, rfl⟩
  · have hk := h.1
    rw [k] at hk ⊢
    refine pr_aload_n 1 dX4_takeStep_0 rfl rfl rfl ?_
    refine pr_getI 4 dX4_takeStep_1 fX4_103 rfl ?_
    rw [hw]
    refine pr_iconst (-1) 5 dX4_takeStep_4 (by decide) rfl ?_
    refine pr_icmp_eq 13 8 dX4_takeStep_5 rfl rfl (fun c_5 => ?_) (fun c_5 => absurd (rfl) (c_5))
    refine pr_aload_n 14 dX4_takeStep_13 rfl rfl rfl ?_
    refine pr_getR0 17 dX4_takeStep_14 fX4_20 rfl ?_
    refine pr_getI 20 dX4_takeStep_17 fX4_52 rfl ?_
    rw [hk]
    refine pr_lookup (off := 44) 64 dX4_takeStep_20 (by decide) (by decide) rfl ?_
    refine pr_aload_n 65 dX4_takeStep_64 rfl rfl rfl ?_
    refine pr_aload_n 66 dX4_takeStep_65 rfl rfl rfl ?_
    refine pr_getR0 69 dX4_takeStep_66 fX4_20 rfl ?_
    refine pr_getI 72 dX4_takeStep_69 fX4_52 rfl ?_
    rw [hk]
    refine pr_putI 75 dX4_takeStep_72 fX4_103 rfl ?_
    refine pr_iconst (1) 76 dX4_takeStep_75 (by decide) rfl ?_
    refine pr_zreturn dX4_takeStep_76 rfl (by first | exact Or.inl rfl | exact Or.inr rfl) ?_
    exact ⟨rfl, rfl⟩
set_option maxRecDepth 100000 in
theorem sp_takeStepE (h : ctk mem B T p) (hw : mem.1 10004904 0 9 = -1) (hk : tK B T p = 3) (ho : mem.1 10004904 0 10 = nI on) (hon : on < 65536) (hlw : mem.1 10004904 0 5 = nI 9) (hl : mem.1 10004904 0 2 = nI ln) : Cd yX4_takeStep cX4_takeStep 1 (some .boolean) 3 63 [pR 10004904 0] mem (some (pI (if on = 0 then 1 else 0))) (if on = 0 then enM mem ln else rfM mem 3 (tS B T p)) := by
  have hk1 := h.1
  rw [hk] at hk1
  refine Cl.of (own := RX4) rfl rfl (Nat.le_of_ble_eq_true rfl) rfl ?_; show PR _ _ _ _ _ _ [some _] _ _ _
  by_cases z : on = 0
  · rw [if_pos z, if_pos z]
    refine pr_aload_n 1 dX4_takeStep_0 rfl rfl rfl ?_
    refine pr_getI 4 dX4_takeStep_1 fX4_103 rfl ?_
    rw [hw]
    refine pr_iconst (-1) 5 dX4_takeStep_4 (by decide) rfl ?_
    refine pr_icmp_eq 13 8 dX4_takeStep_5 rfl rfl (fun c_5 => ?_) (fun c_5 => absurd (rfl) (c_5))
    refine pr_aload_n 14 dX4_takeStep_13 rfl rfl rfl ?_
    refine pr_getR0 17 dX4_takeStep_14 fX4_20 rfl ?_
    refine pr_getI 20 dX4_takeStep_17 fX4_52 rfl ?_
    rw [hk1]
    refine pr_lookup (off := 57) 77 dX4_takeStep_20 (by decide) (by decide) rfl ?_
    refine pr_aload_n 78 dX4_takeStep_77 rfl rfl rfl ?_
    refine pr_getI 81 dX4_takeStep_78 fX4_106 rfl ?_
    rw [ho]
    refine pr_if_ne 91 84 dX4_takeStep_81 rfl rfl (fun c_81 => absurd (by rw [z]; rfl) (c_81)) (fun c_81 => ?_)
    refine pr_aload_n 85 dX4_takeStep_84 rfl rfl rfl ?_
    refine pr_invD0 88 dX4_takeStep_85 vX4_84 mX4_endLine (sp_endLine9 hlw hl) ⟨Nat.le_of_ble_eq_true rfl, Nat.le_of_ble_eq_true rfl⟩ (Nat.le_of_ble_eq_true rfl) rfl ?_
    refine pr_goto 96 dX4_takeStep_88 rfl ?_
    refine pr_zreturn dX4_takeStep_96 rfl (by first | exact Or.inl rfl | exact Or.inr rfl) ?_
    exact ⟨rfl, rfl⟩
  · rw [if_neg z, if_neg z]
    refine pr_aload_n 1 dX4_takeStep_0 rfl rfl rfl ?_
    refine pr_getI 4 dX4_takeStep_1 fX4_103 rfl ?_
    rw [hw]
    refine pr_iconst (-1) 5 dX4_takeStep_4 (by decide) rfl ?_
    refine pr_icmp_eq 13 8 dX4_takeStep_5 rfl rfl (fun c_5 => ?_) (fun c_5 => absurd (rfl) (c_5))
    refine pr_aload_n 14 dX4_takeStep_13 rfl rfl rfl ?_
    refine pr_getR0 17 dX4_takeStep_14 fX4_20 rfl ?_
    refine pr_getI 20 dX4_takeStep_17 fX4_52 rfl ?_
    rw [hk1]
    refine pr_lookup (off := 57) 77 dX4_takeStep_20 (by decide) (by decide) rfl ?_
    refine pr_aload_n 78 dX4_takeStep_77 rfl rfl rfl ?_
    refine pr_getI 81 dX4_takeStep_78 fX4_106 rfl ?_
    rw [ho]
    refine pr_if_ne 91 84 dX4_takeStep_81 rfl rfl (fun c_81 => ?_) (fun c_81 => absurd (c_81) (nI_ne0 (by omega) (by omega)))
    refine pr_aload_n 92 dX4_takeStep_91 rfl rfl rfl ?_
    refine pr_iconst (3) 93 dX4_takeStep_92 (by decide) rfl ?_
    refine pr_invD1 96 dX4_takeStep_93 vX4_62 mX4_refuse (sp_X4_refuse h 3) ⟨Nat.le_of_ble_eq_true rfl, Nat.le_of_ble_eq_true rfl⟩ (Nat.le_of_ble_eq_true rfl) rfl ?_
    refine pr_zreturn dX4_takeStep_96 rfl (by first | exact Or.inl rfl | exact Or.inr rfl) ?_
    exact ⟨rfl, rfl⟩
set_option maxRecDepth 100000 in
theorem sp_takeStepX (h : ctk mem B T p) (hw : mem.1 10004904 0 9 = -1) (hk : ¬ (tK B T p = 3 ∨ tK B T p = 11 ∨ tK B T p = 12 ∨ tK B T p = 13)) : Cd yX4_takeStep cX4_takeStep 1 (some .boolean) 3 63 [pR 10004904 0] mem (some (pI 0)) (rfM mem 1 (tS B T p)) := by
  have hk14 := tK_lt B T p
  have hk1 := h.1
  refine Cl.of (own := RX4) rfl rfl (Nat.le_of_ble_eq_true rfl) rfl ?_; show PR _ _ _ _ _ _ [some _] _ _ _
  rcases (by omega : tK B T p = 0 ∨ tK B T p = 1 ∨ tK B T p = 2 ∨ tK B T p = 4 ∨ tK B T p = 5 ∨ tK B T p = 6 ∨ tK B T p = 7 ∨ tK B T p = 8 ∨ tK B T p = 9 ∨ tK B T p = 10) with k | k | k | k | k | k | k | k | k | k
  · rw [k] at hk1
    refine pr_aload_n 1 dX4_takeStep_0 rfl rfl rfl ?_
    refine pr_getI 4 dX4_takeStep_1 fX4_103 rfl ?_
    rw [hw]
    refine pr_iconst (-1) 5 dX4_takeStep_4 (by decide) rfl ?_
    refine pr_icmp_eq 13 8 dX4_takeStep_5 rfl rfl (fun c_5 => ?_) (fun c_5 => absurd (rfl) (c_5))
    refine pr_aload_n 14 dX4_takeStep_13 rfl rfl rfl ?_
    refine pr_getR0 17 dX4_takeStep_14 fX4_20 rfl ?_
    refine pr_getI 20 dX4_takeStep_17 fX4_52 rfl ?_
    rw [hk1]
    refine pr_lookup (off := 77) 97 dX4_takeStep_20 (by decide) (by decide) rfl ?_
    refine pr_aload_n 98 dX4_takeStep_97 rfl rfl rfl ?_
    refine pr_iconst (1) 99 dX4_takeStep_98 (by decide) rfl ?_
    refine pr_invD1 102 dX4_takeStep_99 vX4_62 mX4_refuse (sp_X4_refuse h 1) ⟨Nat.le_of_ble_eq_true rfl, Nat.le_of_ble_eq_true rfl⟩ (Nat.le_of_ble_eq_true rfl) rfl ?_
    refine pr_zreturn dX4_takeStep_102 rfl (by first | exact Or.inl rfl | exact Or.inr rfl) ?_
    exact ⟨rfl, rfl⟩
  · rw [k] at hk1
    refine pr_aload_n 1 dX4_takeStep_0 rfl rfl rfl ?_
    refine pr_getI 4 dX4_takeStep_1 fX4_103 rfl ?_
    rw [hw]
    refine pr_iconst (-1) 5 dX4_takeStep_4 (by decide) rfl ?_
    refine pr_icmp_eq 13 8 dX4_takeStep_5 rfl rfl (fun c_5 => ?_) (fun c_5 => absurd (rfl) (c_5))
    refine pr_aload_n 14 dX4_takeStep_13 rfl rfl rfl ?_
    refine pr_getR0 17 dX4_takeStep_14 fX4_20 rfl ?_
    refine pr_getI 20 dX4_takeStep_17 fX4_52 rfl ?_
    rw [hk1]
    refine pr_lookup (off := 77) 97 dX4_takeStep_20 (by decide) (by decide) rfl ?_
    refine pr_aload_n 98 dX4_takeStep_97 rfl rfl rfl ?_
    refine pr_iconst (1) 99 dX4_takeStep_98 (by decide) rfl ?_
    refine pr_invD1 102 dX4_takeStep_99 vX4_62 mX4_refuse (sp_X4_refuse h 1) ⟨Nat.le_of_ble_eq_true rfl, Nat.le_of_ble_eq_true rfl⟩ (Nat.le_of_ble_eq_true rfl) rfl ?_
    refine pr_zreturn dX4_takeStep_102 rfl (by first | exact Or.inl rfl | exact Or.inr rfl) ?_
    exact ⟨rfl, rfl⟩
  · rw [k] at hk1
    refine pr_aload_n 1 dX4_takeStep_0 rfl rfl rfl ?_
    refine pr_getI 4 dX4_takeStep_1 fX4_103 rfl ?_
    rw [hw]
    refine pr_iconst (-1) 5 dX4_takeStep_4 (by decide) rfl ?_
    refine pr_icmp_eq 13 8 dX4_takeStep_5 rfl rfl (fun c_5 => ?_) (fun c_5 => absurd (rfl) (c_5))
    refine pr_aload_n 14 dX4_takeStep_13 rfl rfl rfl ?_
    refine pr_getR0 17 dX4_takeStep_14 fX4_20 rfl ?_
    refine pr_getI 20 dX4_takeStep_17 fX4_52 rfl ?_
    rw [hk1]
    refine pr_lookup (off := 77) 97 dX4_takeStep_20 (by decide) (by decide) rfl ?_
    refine pr_aload_n 98 dX4_takeStep_97 rfl rfl rfl ?_
    refine pr_iconst (1) 99 dX4_takeStep_98 (by decide) rfl ?_
    refine pr_invD1 102 dX4_takeStep_99 vX4_62 mX4_refuse (sp_X4_refuse h 1) ⟨Nat.le_of_ble_eq_true rfl, Nat.le_of_ble_eq_true rfl⟩ (Nat.le_of_ble_eq_true rfl) rfl ?_
    refine pr_zreturn dX4_takeStep_102 rfl (by first | exact Or.inl rfl | exact Or.inr rfl) ?_
    exact ⟨rfl, rfl⟩
  · rw [k] at hk1
    refine pr_aload_n 1 dX4_takeStep_0 rfl rfl rfl ?_
    refine pr_getI 4 dX4_takeStep_1 fX4_103 rfl ?_
    rw [hw]
    refine pr_iconst (-1) 5 dX4_takeStep_4 (by decide) rfl ?_
    refine pr_icmp_eq 13 8 dX4_takeStep_5 rfl rfl (fun c_5 => ?_) (fun c_5 => absurd (rfl) (c_5))
    refine pr_aload_n 14 dX4_takeStep_13 rfl rfl rfl ?_
    refine pr_getR0 17 dX4_takeStep_14 fX4_20 rfl ?_
    refine pr_getI 20 dX4_takeStep_17 fX4_52 rfl ?_
    rw [hk1]
    refine pr_lookup (off := 77) 97 dX4_takeStep_20 (by decide) (by decide) rfl ?_
    refine pr_aload_n 98 dX4_takeStep_97 rfl rfl rfl ?_
    refine pr_iconst (1) 99 dX4_takeStep_98 (by decide) rfl ?_
    refine pr_invD1 102 dX4_takeStep_99 vX4_62 mX4_refuse (sp_X4_refuse h 1) ⟨Nat.le_of_ble_eq_true rfl, Nat.le_of_ble_eq_true rfl⟩ (Nat.le_of_ble_eq_true rfl) rfl ?_
    refine pr_zreturn dX4_takeStep_102 rfl (by first | exact Or.inl rfl | exact Or.inr rfl) ?_
    exact ⟨rfl, rfl⟩
  · rw [k] at hk1
    refine pr_aload_n 1 dX4_takeStep_0 rfl rfl rfl ?_
    refine pr_getI 4 dX4_takeStep_1 fX4_103 rfl ?_
    rw [hw]
    refine pr_iconst (-1) 5 dX4_takeStep_4 (by decide) rfl ?_
    refine pr_icmp_eq 13 8 dX4_takeStep_5 rfl rfl (fun c_5 => ?_) (fun c_5 => absurd (rfl) (c_5))
    refine pr_aload_n 14 dX4_takeStep_13 rfl rfl rfl ?_
    refine pr_getR0 17 dX4_takeStep_14 fX4_20 rfl ?_
    refine pr_getI 20 dX4_takeStep_17 fX4_52 rfl ?_
    rw [hk1]
    refine pr_lookup (off := 77) 97 dX4_takeStep_20 (by decide) (by decide) rfl ?_
    refine pr_aload_n 98 dX4_takeStep_97 rfl rfl rfl ?_
    refine pr_iconst (1) 99 dX4_takeStep_98 (by decide) rfl ?_
    refine pr_invD1 102 dX4_takeStep_99 vX4_62 mX4_refuse (sp_X4_refuse h 1) ⟨Nat.le_of_ble_eq_true rfl, Nat.le_of_ble_eq_true rfl⟩ (Nat.le_of_ble_eq_true rfl) rfl ?_
    refine pr_zreturn dX4_takeStep_102 rfl (by first | exact Or.inl rfl | exact Or.inr rfl) ?_
    exact ⟨rfl, rfl⟩
  · rw [k] at hk1
    refine pr_aload_n 1 dX4_takeStep_0 rfl rfl rfl ?_
    refine pr_getI 4 dX4_takeStep_1 fX4_103 rfl ?_
    rw [hw]
    refine pr_iconst (-1) 5 dX4_takeStep_4 (by decide) rfl ?_
    refine pr_icmp_eq 13 8 dX4_takeStep_5 rfl rfl (fun c_5 => ?_) (fun c_5 => absurd (rfl) (c_5))
    refine pr_aload_n 14 dX4_takeStep_13 rfl rfl rfl ?_
    refine pr_getR0 17 dX4_takeStep_14 fX4_20 rfl ?_
    refine pr_getI 20 dX4_takeStep_17 fX4_52 rfl ?_
    rw [hk1]
    refine pr_lookup (off := 77) 97 dX4_takeStep_20 (by decide) (by decide) rfl ?_
    refine pr_aload_n 98 dX4_takeStep_97 rfl rfl rfl ?_
    refine pr_iconst (1) 99 dX4_takeStep_98 (by decide) rfl ?_
    refine pr_invD1 102 dX4_takeStep_99 vX4_62 mX4_refuse (sp_X4_refuse h 1) ⟨Nat.le_of_ble_eq_true rfl, Nat.le_of_ble_eq_true rfl⟩ (Nat.le_of_ble_eq_true rfl) rfl ?_
    refine pr_zreturn dX4_takeStep_102 rfl (by first | exact Or.inl rfl | exact Or.inr rfl) ?_
    exact ⟨rfl, rfl⟩
  · rw [k] at hk1
    refine pr_aload_n 1 dX4_takeStep_0 rfl rfl rfl ?_
    refine pr_getI 4 dX4_takeStep_1 fX4_103 rfl ?_
    rw [hw]
    refine pr_iconst (-1) 5 dX4_takeStep_4 (by decide) rfl ?_
    refine pr_icmp_eq 13 8 dX4_takeStep_5 rfl rfl (fun c_5 => ?_) (fun c_5 => absurd (rfl) (c_5))
    refine pr_aload_n 14 dX4_takeStep_13 rfl rfl rfl ?_
    refine pr_getR0 17 dX4_takeStep_14 fX4_20 rfl ?_
    refine pr_getI 20 dX4_takeStep_17 fX4_52 rfl ?_
    rw [hk1]
    refine pr_lookup (off := 77) 97 dX4_takeStep_20 (by decide) (by decide) rfl ?_
    refine pr_aload_n 98 dX4_takeStep_97 rfl rfl rfl ?_
    refine pr_iconst (1) 99 dX4_takeStep_98 (by decide) rfl ?_
    refine pr_invD1 102 dX4_takeStep_99 vX4_62 mX4_refuse (sp_X4_refuse h 1) ⟨Nat.le_of_ble_eq_true rfl, Nat.le_of_ble_eq_true rfl⟩ (Nat.le_of_ble_eq_true rfl) rfl ?_
    refine pr_zreturn dX4_takeStep_102 rfl (by first | exact Or.inl rfl | exact Or.inr rfl) ?_
    exact ⟨rfl, rfl⟩
  · rw [k] at hk1
    refine pr_aload_n 1 dX4_takeStep_0 rfl rfl rfl ?_
    refine pr_getI 4 dX4_takeStep_1 fX4_103 rfl ?_
    rw [hw]
    refine pr_iconst (-1) 5 dX4_takeStep_4 (by decide) rfl ?_
    refine pr_icmp_eq 13 8 dX4_takeStep_5 rfl rfl (fun c_5 => ?_) (fun c_5 => absurd (rfl) (c_5))
    refine pr_aload_n 14 dX4_takeStep_13 rfl rfl rfl ?_
    refine pr_getR0 17 dX4_takeStep_14 fX4_20 rfl ?_
    refine pr_getI 20 dX4_takeStep_17 fX4_52 rfl ?_
    rw [hk1]
    refine pr_lookup (off := 77) 97 dX4_takeStep_20 (by decide) (by decide) rfl ?_
    refine pr_aload_n 98 dX4_takeStep_97 rfl rfl rfl ?_
    refine pr_iconst (1) 99 dX4_takeStep_98 (by decide) rfl ?_
    refine pr_invD1 102 dX4_takeStep_99 vX4_62 mX4_refuse (sp_X4_refuse h 1) ⟨Nat.le_of_ble_eq_true rfl, Nat.le_of_ble_eq_true rfl⟩ (Nat.le_of_ble_eq_true rfl) rfl ?_
    refine pr_zreturn dX4_takeStep_102 rfl (by first | exact Or.inl rfl | exact Or.inr rfl) ?_
    exact ⟨rfl, rfl⟩
  · rw [k] at hk1
    refine pr_aload_n 1 dX4_takeStep_0 rfl rfl rfl ?_
    refine pr_getI 4 dX4_takeStep_1 fX4_103 rfl ?_
    rw [hw]
    refine pr_iconst (-1) 5 dX4_takeStep_4 (by decide) rfl ?_
    refine pr_icmp_eq 13 8 dX4_takeStep_5 rfl rfl (fun c_5 => ?_) (fun c_5 => absurd (rfl) (c_5))
    refine pr_aload_n 14 dX4_takeStep_13 rfl rfl rfl ?_
    refine pr_getR0 17 dX4_takeStep_14 fX4_20 rfl ?_
    refine pr_getI 20 dX4_takeStep_17 fX4_52 rfl ?_
    rw [hk1]
    refine pr_lookup (off := 77) 97 dX4_takeStep_20 (by decide) (by decide) rfl ?_
    refine pr_aload_n 98 dX4_takeStep_97 rfl rfl rfl ?_
    refine pr_iconst (1) 99 dX4_takeStep_98 (by decide) rfl ?_
    refine pr_invD1 102 dX4_takeStep_99 vX4_62 mX4_refuse (sp_X4_refuse h 1) ⟨Nat.le_of_ble_eq_true rfl, Nat.le_of_ble_eq_true rfl⟩ (Nat.le_of_ble_eq_true rfl) rfl ?_
    refine pr_zreturn dX4_takeStep_102 rfl (by first | exact Or.inl rfl | exact Or.inr rfl) ?_
    exact ⟨rfl, rfl⟩
  · rw [k] at hk1
    refine pr_aload_n 1 dX4_takeStep_0 rfl rfl rfl ?_
    refine pr_getI 4 dX4_takeStep_1 fX4_103 rfl ?_
    rw [hw]
    refine pr_iconst (-1) 5 dX4_takeStep_4 (by decide) rfl ?_
    refine pr_icmp_eq 13 8 dX4_takeStep_5 rfl rfl (fun c_5 => ?_) (fun c_5 => absurd (rfl) (c_5))
    refine pr_aload_n 14 dX4_takeStep_13 rfl rfl rfl ?_
    refine pr_getR0 17 dX4_takeStep_14 fX4_20 rfl ?_
    refine pr_getI 20 dX4_takeStep_17 fX4_52 rfl ?_
    rw [hk1]
    refine pr_lookup (off := 77) 97 dX4_takeStep_20 (by decide) (by decide) rfl ?_
    refine pr_aload_n 98 dX4_takeStep_97 rfl rfl rfl ?_
    refine pr_iconst (1) 99 dX4_takeStep_98 (by decide) rfl ?_
    refine pr_invD1 102 dX4_takeStep_99 vX4_62 mX4_refuse (sp_X4_refuse h 1) ⟨Nat.le_of_ble_eq_true rfl, Nat.le_of_ble_eq_true rfl⟩ (Nat.le_of_ble_eq_true rfl) rfl ?_
    refine pr_zreturn dX4_takeStep_102 rfl (by first | exact Or.inl rfl | exact Or.inr rfl) ?_
    exact ⟨rfl, rfl⟩
end TST
