/-! the class: a line begins -/
def bgE (s : RS) (k : Nat) : Nat := if ¬ (k = 5 ↔ s.ln = 0) then 1 else if k = 5 then 0 else if k = 6 then (if s.K 37 < 12 then 0 else 4) else if k = 7 then (if s.K 38 < 4 then 0 else 4) else if k = 8 then (if s.K 39 < 16 then 0 else 4) else if k = 9 then (if s.K 40 < 16 then 0 else 4) else 1
theorem stp_b {s : RS} {k v : Nat} (hw : s.w = 0) : stp s k v = if bgE s k = 0 then .ok (begL s k) else .error (bgE s k) := by
  rw [stp, if_pos hw]
  unfold bgE
  repeat' split
  all_goals first | rfl | omega | (subst_vars; rfl)
section BLN
variable {mem : pm_M} {T p d : Nat} {B : Nat → Nat} {s : RS}
set_option maxRecDepth 100000 in
theorem sp_X4_beginLine (h : ctk mem B T p) (hd : mem.2.2 10004904 0 1 = some d) (hl : mem.1 10004904 0 2 = nI s.ln) (hln : s.ln < 1000) (h7 : mem.1 10000900 d 1 = nI (s.K 37)) (h8 : mem.1 10000900 d 2 = nI (s.K 38)) (h9 : mem.1 10000900 d 3 = nI (s.K 39)) (h0 : mem.1 10000900 d 4 = nI (s.K 40)) (hb : s.K 37 ≤ 12 ∧ s.K 38 ≤ 4 ∧ s.K 39 ≤ 16 ∧ s.K 40 ≤ 16) :
    Cd yX4_beginLine cX4_beginLine 2 (some .boolean) 2 44 [pR 10004904 0] mem (some (pI (if bgE s (tK B T p) = 0 then 1 else 0))) (if bgE s (tK B T p) = 0 then bgM mem (nI (tK B T p)) (nI (wnt (tK B T p))) else rfM mem (bgE s (tK B T p)) (tS B T p)) := by
  have hk := h.1
  have hk14 := tK_lt B T p
  obtain ⟨k, ek⟩ : ∃ k, tK B T p = k := ⟨_, rfl⟩
  rw [ek] at hk hk14 ⊢
  refine Cl.of (own := RX4) rfl rfl (Nat.le_of_ble_eq_true rfl) rfl ?_; show PR _ _ _ _ _ _ [some _, none] _ _ _
  by_cases k5 : k = 5
  · subst k5
    by_cases l0 : s.ln = 0
    · have e : bgE s 5 = 0 := by rw [bgE, if_neg (by omega), if_pos rfl]
      rw [e]
      refine pr_aload_n 1 dX4_beginLine_0 rfl rfl rfl ?_
      refine pr_getR0 4 dX4_beginLine_1 fX4_20 rfl ?_
      refine pr_getI 7 dX4_beginLine_4 fX4_52 rfl ?_
      rw [hk]
      refine pr_istore_n 8 dX4_beginLine_7 rfl (pm_st_1 rfl rfl) rfl ?_
      refine pr_iload_n 9 dX4_beginLine_8 rfl rfl rfl ?_
      refine pr_iconst (5) 10 dX4_beginLine_9 (by decide) rfl ?_
      refine pr_icmp_ne 17 13 dX4_beginLine_10 rfl rfl (fun c_10 => absurd (rfl) (c_10)) (fun c_10 => ?_)
      refine pr_iconst (1) 14 dX4_beginLine_13 (by decide) rfl ?_
      refine pr_goto 18 dX4_beginLine_14 rfl ?_
      refine pr_aload_n 19 dX4_beginLine_18 rfl rfl rfl ?_
      refine pr_getI 22 dX4_beginLine_19 fX4_33 rfl ?_
      rw [hl]
      refine pr_if_ne 29 25 dX4_beginLine_22 rfl rfl (fun c_22 => absurd (by rw [l0]; rfl) (c_22)) (fun c_22 => ?_)
      refine pr_iconst (1) 26 dX4_beginLine_25 (by decide) rfl ?_
      refine pr_goto 30 dX4_beginLine_26 rfl ?_
      refine pr_icmp_eq 39 33 dX4_beginLine_30 rfl rfl (fun c_30 => ?_) (fun c_30 => absurd (rfl) (c_30))
      refine pr_iload_n 40 dX4_beginLine_39 rfl rfl rfl ?_
      refine pr_table 76 dX4_beginLine_40 (Or.inr ⟨by decide, by decide, 36, rfl, rfl⟩) ?_
      refine pr_aload_n 77 dX4_beginLine_76 rfl rfl rfl ?_
      refine pr_iload_n 78 dX4_beginLine_77 rfl rfl rfl ?_
      refine pr_iconst (1) 79 dX4_beginLine_78 (by decide) rfl ?_
      refine pr_iconst (1) 80 dX4_beginLine_79 (by decide) rfl ?_
      refine pr_invD3 83 dX4_beginLine_80 vX4_87 mX4_beginLineOf (sp_X4_beginLineOf h _ _ (P := True)) ⟨Nat.le_of_ble_eq_true rfl, Nat.le_of_ble_eq_true rfl⟩ (Nat.le_of_ble_eq_true rfl) rfl ?_
      refine pr_zreturn dX4_beginLine_83 rfl (by first | exact Or.inl rfl | exact Or.inr rfl) ?_
      exact ⟨rfl, rfl⟩
    · have e : bgE s 5 = 1 := by rw [bgE, if_pos (by omega)]
      rw [e]
      refine pr_aload_n 1 dX4_beginLine_0 rfl rfl rfl ?_
      refine pr_getR0 4 dX4_beginLine_1 fX4_20 rfl ?_
      refine pr_getI 7 dX4_beginLine_4 fX4_52 rfl ?_
      rw [hk]
      refine pr_istore_n 8 dX4_beginLine_7 rfl (pm_st_1 rfl rfl) rfl ?_
      refine pr_iload_n 9 dX4_beginLine_8 rfl rfl rfl ?_
      refine pr_iconst (5) 10 dX4_beginLine_9 (by decide) rfl ?_
      refine pr_icmp_ne 17 13 dX4_beginLine_10 rfl rfl (fun c_10 => absurd (rfl) (c_10)) (fun c_10 => ?_)
      refine pr_iconst (1) 14 dX4_beginLine_13 (by decide) rfl ?_
      refine pr_goto 18 dX4_beginLine_14 rfl ?_
      refine pr_aload_n 19 dX4_beginLine_18 rfl rfl rfl ?_
      refine pr_getI 22 dX4_beginLine_19 fX4_33 rfl ?_
      rw [hl]
      refine pr_if_ne 29 25 dX4_beginLine_22 rfl rfl (fun c_22 => ?_) (fun c_22 => absurd (c_22) (nI_ne0 (by omega) (by omega)))
      refine pr_iconst (0) 30 dX4_beginLine_29 (by decide) rfl ?_
      refine pr_icmp_eq 39 33 dX4_beginLine_30 rfl rfl (fun c_30 => absurd (c_30) (by decide)) (fun c_30 => ?_)
      refine pr_aload_n 34 dX4_beginLine_33 rfl rfl rfl ?_
      refine pr_iconst (1) 35 dX4_beginLine_34 (by decide) rfl ?_
      refine pr_invD1 38 dX4_beginLine_35 vX4_62 mX4_refuse (sp_X4_refuse h 1) ⟨Nat.le_of_ble_eq_true rfl, Nat.le_of_ble_eq_true rfl⟩ (Nat.le_of_ble_eq_true rfl) rfl ?_
      refine pr_zreturn dX4_beginLine_38 rfl (by first | exact Or.inl rfl | exact Or.inr rfl) ?_
      exact ⟨rfl, rfl⟩
  have n5 : ¬ nI k = 5 := fun z => k5 ((nI_eq (b := 5) (by omega) (by omega)).mp z)
  by_cases l0 : s.ln = 0
  · have e : bgE s k = 1 := by rw [bgE, if_pos (by omega)]
    rw [e]
    refine pr_aload_n 1 dX4_beginLine_0 rfl rfl rfl ?_
    refine pr_getR0 4 dX4_beginLine_1 fX4_20 rfl ?_
    refine pr_getI 7 dX4_beginLine_4 fX4_52 rfl ?_
    rw [hk]
    refine pr_istore_n 8 dX4_beginLine_7 rfl (pm_st_1 rfl rfl) rfl ?_
    refine pr_iload_n 9 dX4_beginLine_8 rfl rfl rfl ?_
    refine pr_iconst (5) 10 dX4_beginLine_9 (by decide) rfl ?_
    refine pr_icmp_ne 17 13 dX4_beginLine_10 rfl rfl (fun c_10 => ?_) (fun c_10 => absurd (c_10) (n5))
    refine pr_iconst (0) 18 dX4_beginLine_17 (by decide) rfl ?_
    refine pr_aload_n 19 dX4_beginLine_18 rfl rfl rfl ?_
    refine pr_getI 22 dX4_beginLine_19 fX4_33 rfl ?_
    rw [hl]
    refine pr_if_ne 29 25 dX4_beginLine_22 rfl rfl (fun c_22 => absurd (by rw [l0]; rfl) (c_22)) (fun c_22 => ?_)
    refine pr_iconst (1) 26 dX4_beginLine_25 (by decide) rfl ?_
    refine pr_goto 30 dX4_beginLine_26 rfl ?_
    refine pr_icmp_eq 39 33 dX4_beginLine_30 rfl rfl (fun c_30 => absurd (c_30) (by decide)) (fun c_30 => ?_)
    refine pr_aload_n 34 dX4_beginLine_33 rfl rfl rfl ?_
    refine pr_iconst (1) 35 dX4_beginLine_34 (by decide) rfl ?_
    refine pr_invD1 38 dX4_beginLine_35 vX4_62 mX4_refuse (sp_X4_refuse h 1) ⟨Nat.le_of_ble_eq_true rfl, Nat.le_of_ble_eq_true rfl⟩ (Nat.le_of_ble_eq_true rfl) rfl ?_
    refine pr_zreturn dX4_beginLine_38 rfl (by first | exact Or.inl rfl | exact Or.inr rfl) ?_
    exact ⟨rfl, rfl⟩
  have eb : bgE s k = if k = 6 then (if s.K 37 < 12 then 0 else 4) else if k = 7 then (if s.K 38 < 4 then 0 else 4) else if k = 8 then (if s.K 39 < 16 then 0 else 4) else if k = 9 then (if s.K 40 < 16 then 0 else 4) else 1 := by rw [bgE, if_neg (by omega), if_neg k5]
  rw [eb]
  have n0 : ¬ nI s.ln = 0 := nI_ne0 (by omega) (by omega)
  rcases (by omega : k = 6 ∨ k = 7 ∨ k = 8 ∨ k = 9 ∨ ¬ (k = 6 ∨ k = 7 ∨ k = 8 ∨ k = 9)) with rfl | rfl | rfl | rfl | kk
  · by_cases c : s.K 37 < 12
    · rw [show (if 6 = 6 then (if s.K 37 < 12 then 0 else 4) else if 6 = 7 then (if s.K 38 < 4 then 0 else 4) else if 6 = 8 then (if s.K 39 < 16 then 0 else 4) else if 6 = 9 then (if s.K 40 < 16 then 0 else 4) else 1) = 0 by simp [c]]
      refine pr_aload_n 1 dX4_beginLine_0 rfl rfl rfl ?_
      refine pr_getR0 4 dX4_beginLine_1 fX4_20 rfl ?_
      refine pr_getI 7 dX4_beginLine_4 fX4_52 rfl ?_
      rw [hk]
      refine pr_istore_n 8 dX4_beginLine_7 rfl (pm_st_1 rfl rfl) rfl ?_
      refine pr_iload_n 9 dX4_beginLine_8 rfl rfl rfl ?_
      refine pr_iconst (5) 10 dX4_beginLine_9 (by decide) rfl ?_
      refine pr_icmp_ne 17 13 dX4_beginLine_10 rfl rfl (fun c_10 => ?_) (fun c_10 => absurd (c_10) (n5))
      refine pr_iconst (0) 18 dX4_beginLine_17 (by decide) rfl ?_
      refine pr_aload_n 19 dX4_beginLine_18 rfl rfl rfl ?_
      refine pr_getI 22 dX4_beginLine_19 fX4_33 rfl ?_
      rw [hl]
      refine pr_if_ne 29 25 dX4_beginLine_22 rfl rfl (fun c_22 => ?_) (fun c_22 => absurd (c_22) (n0))
      refine pr_iconst (0) 30 dX4_beginLine_29 (by decide) rfl ?_
      refine pr_icmp_eq 39 33 dX4_beginLine_30 rfl rfl (fun c_30 => ?_) (fun c_30 => absurd (rfl) (c_30))
      refine pr_iload_n 40 dX4_beginLine_39 rfl rfl rfl ?_
      refine pr_table 84 dX4_beginLine_40 (Or.inr ⟨by decide, by decide, 44, rfl, rfl⟩) ?_
      refine pr_aload_n 85 dX4_beginLine_84 rfl rfl rfl ?_
      refine pr_iload_n 86 dX4_beginLine_85 rfl rfl rfl ?_
      refine pr_iconst (2) 87 dX4_beginLine_86 (by decide) rfl ?_
      refine pr_aload_n 88 dX4_beginLine_87 rfl rfl rfl ?_
      refine pr_getP d 91 dX4_beginLine_88 fX4_24 hd rfl ?_
      refine pr_getI 94 dX4_beginLine_91 fX4_91 rfl ?_
      rw [h7]
      refine pr_bipush (12) 96 dX4_beginLine_94 (by decide) rfl ?_
      refine pr_icmp_ge 103 99 dX4_beginLine_96 rfl rfl (fun c_96 => absurd (c_96) (nI_ge (b := 12) c (by omega))) (fun c_96 => ?_)
      refine pr_iconst (1) 100 dX4_beginLine_99 (by decide) rfl ?_
      refine pr_goto 104 dX4_beginLine_100 rfl ?_
      refine pr_invD3 107 dX4_beginLine_104 vX4_87 mX4_beginLineOf (sp_X4_beginLineOf h _ _ (P := True)) ⟨Nat.le_of_ble_eq_true rfl, Nat.le_of_ble_eq_true rfl⟩ (Nat.le_of_ble_eq_true rfl) rfl ?_
      refine pr_zreturn dX4_beginLine_107 rfl (by first | exact Or.inl rfl | exact Or.inr rfl) ?_
      exact ⟨rfl, rfl⟩
    · rw [show (if 6 = 6 then (if s.K 37 < 12 then 0 else 4) else if 6 = 7 then (if s.K 38 < 4 then 0 else 4) else if 6 = 8 then (if s.K 39 < 16 then 0 else 4) else if 6 = 9 then (if s.K 40 < 16 then 0 else 4) else 1) = 4 by simp [c]]
      refine pr_aload_n 1 dX4_beginLine_0 rfl rfl rfl ?_
      refine pr_getR0 4 dX4_beginLine_1 fX4_20 rfl ?_
      refine pr_getI 7 dX4_beginLine_4 fX4_52 rfl ?_
      rw [hk]
      refine pr_istore_n 8 dX4_beginLine_7 rfl (pm_st_1 rfl rfl) rfl ?_
      refine pr_iload_n 9 dX4_beginLine_8 rfl rfl rfl ?_
      refine pr_iconst (5) 10 dX4_beginLine_9 (by decide) rfl ?_
      refine pr_icmp_ne 17 13 dX4_beginLine_10 rfl rfl (fun c_10 => ?_) (fun c_10 => absurd (c_10) (n5))
      refine pr_iconst (0) 18 dX4_beginLine_17 (by decide) rfl ?_
      refine pr_aload_n 19 dX4_beginLine_18 rfl rfl rfl ?_
      refine pr_getI 22 dX4_beginLine_19 fX4_33 rfl ?_
      rw [hl]
      refine pr_if_ne 29 25 dX4_beginLine_22 rfl rfl (fun c_22 => ?_) (fun c_22 => absurd (c_22) (n0))
      refine pr_iconst (0) 30 dX4_beginLine_29 (by decide) rfl ?_
      refine pr_icmp_eq 39 33 dX4_beginLine_30 rfl rfl (fun c_30 => ?_) (fun c_30 => absurd (rfl) (c_30))
      refine pr_iload_n 40 dX4_beginLine_39 rfl rfl rfl ?_
      refine pr_table 84 dX4_beginLine_40 (Or.inr ⟨by decide, by decide, 44, rfl, rfl⟩) ?_
      refine pr_aload_n 85 dX4_beginLine_84 rfl rfl rfl ?_
      refine pr_iload_n 86 dX4_beginLine_85 rfl rfl rfl ?_
      refine pr_iconst (2) 87 dX4_beginLine_86 (by decide) rfl ?_
      refine pr_aload_n 88 dX4_beginLine_87 rfl rfl rfl ?_
      refine pr_getP d 91 dX4_beginLine_88 fX4_24 hd rfl ?_
      refine pr_getI 94 dX4_beginLine_91 fX4_91 rfl ?_
      rw [h7]
      refine pr_bipush (12) 96 dX4_beginLine_94 (by decide) rfl ?_
      refine pr_icmp_ge 103 99 dX4_beginLine_96 rfl rfl (fun c_96 => ?_) (fun c_96 => absurd ((nI_leI (a := 12) (by omega) (by omega)).mpr (by omega)) (c_96))
      refine pr_iconst (0) 104 dX4_beginLine_103 (by decide) rfl ?_
      refine pr_invD3 107 dX4_beginLine_104 vX4_87 mX4_beginLineOf (sp_X4_beginLineOf h _ _ (P := False)) ⟨Nat.le_of_ble_eq_true rfl, Nat.le_of_ble_eq_true rfl⟩ (Nat.le_of_ble_eq_true rfl) rfl ?_
      refine pr_zreturn dX4_beginLine_107 rfl (by first | exact Or.inl rfl | exact Or.inr rfl) ?_
      exact ⟨rfl, rfl⟩
  · by_cases c : s.K 38 < 4
    · rw [show (if 7 = 6 then (if s.K 37 < 12 then 0 else 4) else if 7 = 7 then (if s.K 38 < 4 then 0 else 4) else if 7 = 8 then (if s.K 39 < 16 then 0 else 4) else if 7 = 9 then (if s.K 40 < 16 then 0 else 4) else 1) = 0 by simp [c]]
      refine pr_aload_n 1 dX4_beginLine_0 rfl rfl rfl ?_
      refine pr_getR0 4 dX4_beginLine_1 fX4_20 rfl ?_
      refine pr_getI 7 dX4_beginLine_4 fX4_52 rfl ?_
      rw [hk]
      refine pr_istore_n 8 dX4_beginLine_7 rfl (pm_st_1 rfl rfl) rfl ?_
      refine pr_iload_n 9 dX4_beginLine_8 rfl rfl rfl ?_
      refine pr_iconst (5) 10 dX4_beginLine_9 (by decide) rfl ?_
      refine pr_icmp_ne 17 13 dX4_beginLine_10 rfl rfl (fun c_10 => ?_) (fun c_10 => absurd (c_10) (n5))
      refine pr_iconst (0) 18 dX4_beginLine_17 (by decide) rfl ?_
      refine pr_aload_n 19 dX4_beginLine_18 rfl rfl rfl ?_
      refine pr_getI 22 dX4_beginLine_19 fX4_33 rfl ?_
      rw [hl]
      refine pr_if_ne 29 25 dX4_beginLine_22 rfl rfl (fun c_22 => ?_) (fun c_22 => absurd (c_22) (n0))
      refine pr_iconst (0) 30 dX4_beginLine_29 (by decide) rfl ?_
      refine pr_icmp_eq 39 33 dX4_beginLine_30 rfl rfl (fun c_30 => ?_) (fun c_30 => absurd (rfl) (c_30))
      refine pr_iload_n 40 dX4_beginLine_39 rfl rfl rfl ?_
      refine pr_table 108 dX4_beginLine_40 (Or.inr ⟨by decide, by decide, 68, rfl, rfl⟩) ?_
      refine pr_aload_n 109 dX4_beginLine_108 rfl rfl rfl ?_
      refine pr_iload_n 110 dX4_beginLine_109 rfl rfl rfl ?_
      refine pr_iconst (2) 111 dX4_beginLine_110 (by decide) rfl ?_
      refine pr_aload_n 112 dX4_beginLine_111 rfl rfl rfl ?_
      refine pr_getP d 115 dX4_beginLine_112 fX4_24 hd rfl ?_
      refine pr_getI 118 dX4_beginLine_115 fX4_94 rfl ?_
      rw [h8]
      refine pr_iconst (4) 119 dX4_beginLine_118 (by decide) rfl ?_
      refine pr_icmp_ge 126 122 dX4_beginLine_119 rfl rfl (fun c_119 => absurd (c_119) (nI_ge (b := 4) c (by omega))) (fun c_119 => ?_)
      refine pr_iconst (1) 123 dX4_beginLine_122 (by decide) rfl ?_
      refine pr_goto 127 dX4_beginLine_123 rfl ?_
      refine pr_invD3 130 dX4_beginLine_127 vX4_87 mX4_beginLineOf (sp_X4_beginLineOf h _ _ (P := True)) ⟨Nat.le_of_ble_eq_true rfl, Nat.le_of_ble_eq_true rfl⟩ (Nat.le_of_ble_eq_true rfl) rfl ?_
      refine pr_zreturn dX4_beginLine_130 rfl (by first | exact Or.inl rfl | exact Or.inr rfl) ?_
      exact ⟨rfl, rfl⟩
    · rw [show (if 7 = 6 then (if s.K 37 < 12 then 0 else 4) else if 7 = 7 then (if s.K 38 < 4 then 0 else 4) else if 7 = 8 then (if s.K 39 < 16 then 0 else 4) else if 7 = 9 then (if s.K 40 < 16 then 0 else 4) else 1) = 4 by simp [c]]
      refine pr_aload_n 1 dX4_beginLine_0 rfl rfl rfl ?_
      refine pr_getR0 4 dX4_beginLine_1 fX4_20 rfl ?_
      refine pr_getI 7 dX4_beginLine_4 fX4_52 rfl ?_
      rw [hk]
      refine pr_istore_n 8 dX4_beginLine_7 rfl (pm_st_1 rfl rfl) rfl ?_
      refine pr_iload_n 9 dX4_beginLine_8 rfl rfl rfl ?_
      refine pr_iconst (5) 10 dX4_beginLine_9 (by decide) rfl ?_
      refine pr_icmp_ne 17 13 dX4_beginLine_10 rfl rfl (fun c_10 => ?_) (fun c_10 => absurd (c_10) (n5))
      refine pr_iconst (0) 18 dX4_beginLine_17 (by decide) rfl ?_
      refine pr_aload_n 19 dX4_beginLine_18 rfl rfl rfl ?_
      refine pr_getI 22 dX4_beginLine_19 fX4_33 rfl ?_
      rw [hl]
      refine pr_if_ne 29 25 dX4_beginLine_22 rfl rfl (fun c_22 => ?_) (fun c_22 => absurd (c_22) (n0))
      refine pr_iconst (0) 30 dX4_beginLine_29 (by decide) rfl ?_
      refine pr_icmp_eq 39 33 dX4_beginLine_30 rfl rfl (fun c_30 => ?_) (fun c_30 => absurd (rfl) (c_30))
      refine pr_iload_n 40 dX4_beginLine_39 rfl rfl rfl ?_
      refine pr_table 108 dX4_beginLine_40 (Or.inr ⟨by decide, by decide, 68, rfl, rfl⟩) ?_
      refine pr_aload_n 109 dX4_beginLine_108 rfl rfl rfl ?_
      refine pr_iload_n 110 dX4_beginLine_109 rfl rfl rfl ?_
      refine pr_iconst (2) 111 dX4_beginLine_110 (by decide) rfl ?_
      refine pr_aload_n 112 dX4_beginLine_111 rfl rfl rfl ?_
      refine pr_getP d 115 dX4_beginLine_112 fX4_24 hd rfl ?_
      refine pr_getI 118 dX4_beginLine_115 fX4_94 rfl ?_
      rw [h8]
      refine pr_iconst (4) 119 dX4_beginLine_118 (by decide) rfl ?_
      refine pr_icmp_ge 126 122 dX4_beginLine_119 rfl rfl (fun c_119 => ?_) (fun c_119 => absurd ((nI_leI (a := 4) (by omega) (by omega)).mpr (by omega)) (c_119))
      refine pr_iconst (0) 127 dX4_beginLine_126 (by decide) rfl ?_
      refine pr_invD3 130 dX4_beginLine_127 vX4_87 mX4_beginLineOf (sp_X4_beginLineOf h _ _ (P := False)) ⟨Nat.le_of_ble_eq_true rfl, Nat.le_of_ble_eq_true rfl⟩ (Nat.le_of_ble_eq_true rfl) rfl ?_
      refine pr_zreturn dX4_beginLine_130 rfl (by first | exact Or.inl rfl | exact Or.inr rfl) ?_
      exact ⟨rfl, rfl⟩
  · by_cases c : s.K 39 < 16
    · rw [show (if 8 = 6 then (if s.K 37 < 12 then 0 else 4) else if 8 = 7 then (if s.K 38 < 4 then 0 else 4) else if 8 = 8 then (if s.K 39 < 16 then 0 else 4) else if 8 = 9 then (if s.K 40 < 16 then 0 else 4) else 1) = 0 by simp [c]]
      refine pr_aload_n 1 dX4_beginLine_0 rfl rfl rfl ?_
      refine pr_getR0 4 dX4_beginLine_1 fX4_20 rfl ?_
      refine pr_getI 7 dX4_beginLine_4 fX4_52 rfl ?_
      rw [hk]
      refine pr_istore_n 8 dX4_beginLine_7 rfl (pm_st_1 rfl rfl) rfl ?_
      refine pr_iload_n 9 dX4_beginLine_8 rfl rfl rfl ?_
      refine pr_iconst (5) 10 dX4_beginLine_9 (by decide) rfl ?_
      refine pr_icmp_ne 17 13 dX4_beginLine_10 rfl rfl (fun c_10 => ?_) (fun c_10 => absurd (c_10) (n5))
      refine pr_iconst (0) 18 dX4_beginLine_17 (by decide) rfl ?_
      refine pr_aload_n 19 dX4_beginLine_18 rfl rfl rfl ?_
      refine pr_getI 22 dX4_beginLine_19 fX4_33 rfl ?_
      rw [hl]
      refine pr_if_ne 29 25 dX4_beginLine_22 rfl rfl (fun c_22 => ?_) (fun c_22 => absurd (c_22) (n0))
      refine pr_iconst (0) 30 dX4_beginLine_29 (by decide) rfl ?_
      refine pr_icmp_eq 39 33 dX4_beginLine_30 rfl rfl (fun c_30 => ?_) (fun c_30 => absurd (rfl) (c_30))
      refine pr_iload_n 40 dX4_beginLine_39 rfl rfl rfl ?_
      refine pr_table 131 dX4_beginLine_40 (Or.inr ⟨by decide, by decide, 91, rfl, rfl⟩) ?_
      refine pr_aload_n 132 dX4_beginLine_131 rfl rfl rfl ?_
      refine pr_iload_n 133 dX4_beginLine_132 rfl rfl rfl ?_
      refine pr_iconst (3) 134 dX4_beginLine_133 (by decide) rfl ?_
      refine pr_aload_n 135 dX4_beginLine_134 rfl rfl rfl ?_
      refine pr_getP d 138 dX4_beginLine_135 fX4_24 hd rfl ?_
      refine pr_getI 141 dX4_beginLine_138 fX4_97 rfl ?_
      rw [h9]
      refine pr_bipush (16) 143 dX4_beginLine_141 (by decide) rfl ?_
      refine pr_icmp_ge 150 146 dX4_beginLine_143 rfl rfl (fun c_143 => absurd (c_143) (nI_ge (b := 16) c (by omega))) (fun c_143 => ?_)
      refine pr_iconst (1) 147 dX4_beginLine_146 (by decide) rfl ?_
      refine pr_goto 151 dX4_beginLine_147 rfl ?_
      refine pr_invD3 154 dX4_beginLine_151 vX4_87 mX4_beginLineOf (sp_X4_beginLineOf h _ _ (P := True)) ⟨Nat.le_of_ble_eq_true rfl, Nat.le_of_ble_eq_true rfl⟩ (Nat.le_of_ble_eq_true rfl) rfl ?_
      refine pr_zreturn dX4_beginLine_154 rfl (by first | exact Or.inl rfl | exact Or.inr rfl) ?_
      exact ⟨rfl, rfl⟩
    · rw [show (if 8 = 6 then (if s.K 37 < 12 then 0 else 4) else if 8 = 7 then (if s.K 38 < 4 then 0 else 4) else if 8 = 8 then (if s.K 39 < 16 then 0 else 4) else if 8 = 9 then (if s.K 40 < 16 then 0 else 4) else 1) = 4 by simp [c]]
      refine pr_aload_n 1 dX4_beginLine_0 rfl rfl rfl ?_
      refine pr_getR0 4 dX4_beginLine_1 fX4_20 rfl ?_
      refine pr_getI 7 dX4_beginLine_4 fX4_52 rfl ?_
      rw [hk]
      refine pr_istore_n 8 dX4_beginLine_7 rfl (pm_st_1 rfl rfl) rfl ?_
      refine pr_iload_n 9 dX4_beginLine_8 rfl rfl rfl ?_
      refine pr_iconst (5) 10 dX4_beginLine_9 (by decide) rfl ?_
      refine pr_icmp_ne 17 13 dX4_beginLine_10 rfl rfl (fun c_10 => ?_) (fun c_10 => absurd (c_10) (n5))
      refine pr_iconst (0) 18 dX4_beginLine_17 (by decide) rfl ?_
      refine pr_aload_n 19 dX4_beginLine_18 rfl rfl rfl ?_
      refine pr_getI 22 dX4_beginLine_19 fX4_33 rfl ?_
      rw [hl]
      refine pr_if_ne 29 25 dX4_beginLine_22 rfl rfl (fun c_22 => ?_) (fun c_22 => absurd (c_22) (n0))
      refine pr_iconst (0) 30 dX4_beginLine_29 (by decide) rfl ?_
      refine pr_icmp_eq 39 33 dX4_beginLine_30 rfl rfl (fun c_30 => ?_) (fun c_30 => absurd (rfl) (c_30))
      refine pr_iload_n 40 dX4_beginLine_39 rfl rfl rfl ?_
      refine pr_table 131 dX4_beginLine_40 (Or.inr ⟨by decide, by decide, 91, rfl, rfl⟩) ?_
      refine pr_aload_n 132 dX4_beginLine_131 rfl rfl rfl ?_
      refine pr_iload_n 133 dX4_beginLine_132 rfl rfl rfl ?_
      refine pr_iconst (3) 134 dX4_beginLine_133 (by decide) rfl ?_
      refine pr_aload_n 135 dX4_beginLine_134 rfl rfl rfl ?_
      refine pr_getP d 138 dX4_beginLine_135 fX4_24 hd rfl ?_
      refine pr_getI 141 dX4_beginLine_138 fX4_97 rfl ?_
      rw [h9]
      refine pr_bipush (16) 143 dX4_beginLine_141 (by decide) rfl ?_
      refine pr_icmp_ge 150 146 dX4_beginLine_143 rfl rfl (fun c_143 => ?_) (fun c_143 => absurd ((nI_leI (a := 16) (by omega) (by omega)).mpr (by omega)) (c_143))
      refine pr_iconst (0) 151 dX4_beginLine_150 (by decide) rfl ?_
      refine pr_invD3 154 dX4_beginLine_151 vX4_87 mX4_beginLineOf (sp_X4_beginLineOf h _ _ (P := False)) ⟨Nat.le_of_ble_eq_true rfl, Nat.le_of_ble_eq_true rfl⟩ (Nat.le_of_ble_eq_true rfl) rfl ?_
      refine pr_zreturn dX4_beginLine_154 rfl (by first | exact Or.inl rfl | exact Or.inr rfl) ?_
      exact ⟨rfl, rfl⟩
  · by_cases c : s.K 40 < 16
    · rw [show (if 9 = 6 then (if s.K 37 < 12 then 0 else 4) else if 9 = 7 then (if s.K 38 < 4 then 0 else 4) else if 9 = 8 then (if s.K 39 < 16 then 0 else 4) else if 9 = 9 then (if s.K 40 < 16 then 0 else 4) else 1) = 0 by simp [c]]
      refine pr_aload_n 1 dX4_beginLine_0 rfl rfl rfl ?_
      refine pr_getR0 4 dX4_beginLine_1 fX4_20 rfl ?_
      refine pr_getI 7 dX4_beginLine_4 fX4_52 rfl ?_
      rw [hk]
      refine pr_istore_n 8 dX4_beginLine_7 rfl (pm_st_1 rfl rfl) rfl ?_
      refine pr_iload_n 9 dX4_beginLine_8 rfl rfl rfl ?_
      refine pr_iconst (5) 10 dX4_beginLine_9 (by decide) rfl ?_
      refine pr_icmp_ne 17 13 dX4_beginLine_10 rfl rfl (fun c_10 => ?_) (fun c_10 => absurd (c_10) (n5))
      refine pr_iconst (0) 18 dX4_beginLine_17 (by decide) rfl ?_
      refine pr_aload_n 19 dX4_beginLine_18 rfl rfl rfl ?_
      refine pr_getI 22 dX4_beginLine_19 fX4_33 rfl ?_
      rw [hl]
      refine pr_if_ne 29 25 dX4_beginLine_22 rfl rfl (fun c_22 => ?_) (fun c_22 => absurd (c_22) (n0))
      refine pr_iconst (0) 30 dX4_beginLine_29 (by decide) rfl ?_
      refine pr_icmp_eq 39 33 dX4_beginLine_30 rfl rfl (fun c_30 => ?_) (fun c_30 => absurd (rfl) (c_30))
      refine pr_iload_n 40 dX4_beginLine_39 rfl rfl rfl ?_
      refine pr_table 155 dX4_beginLine_40 (Or.inr ⟨by decide, by decide, 115, rfl, rfl⟩) ?_
      refine pr_aload_n 156 dX4_beginLine_155 rfl rfl rfl ?_
      refine pr_iload_n 157 dX4_beginLine_156 rfl rfl rfl ?_
      refine pr_iconst (3) 158 dX4_beginLine_157 (by decide) rfl ?_
      refine pr_aload_n 159 dX4_beginLine_158 rfl rfl rfl ?_
      refine pr_getP d 162 dX4_beginLine_159 fX4_24 hd rfl ?_
      refine pr_getI 165 dX4_beginLine_162 fX4_100 rfl ?_
      rw [h0]
      refine pr_bipush (16) 167 dX4_beginLine_165 (by decide) rfl ?_
      refine pr_icmp_ge 174 170 dX4_beginLine_167 rfl rfl (fun c_167 => absurd (c_167) (nI_ge (b := 16) c (by omega))) (fun c_167 => ?_)
      refine pr_iconst (1) 171 dX4_beginLine_170 (by decide) rfl ?_
      refine pr_goto 175 dX4_beginLine_171 rfl ?_
      refine pr_invD3 178 dX4_beginLine_175 vX4_87 mX4_beginLineOf (sp_X4_beginLineOf h _ _ (P := True)) ⟨Nat.le_of_ble_eq_true rfl, Nat.le_of_ble_eq_true rfl⟩ (Nat.le_of_ble_eq_true rfl) rfl ?_
      refine pr_zreturn dX4_beginLine_178 rfl (by first | exact Or.inl rfl | exact Or.inr rfl) ?_
      exact ⟨rfl, rfl⟩
    · rw [show (if 9 = 6 then (if s.K 37 < 12 then 0 else 4) else if 9 = 7 then (if s.K 38 < 4 then 0 else 4) else if 9 = 8 then (if s.K 39 < 16 then 0 else 4) else if 9 = 9 then (if s.K 40 < 16 then 0 else 4) else 1) = 4 by simp [c]]
      refine pr_aload_n 1 dX4_beginLine_0 rfl rfl rfl ?_
      refine pr_getR0 4 dX4_beginLine_1 fX4_20 rfl ?_
      refine pr_getI 7 dX4_beginLine_4 fX4_52 rfl ?_
      rw [hk]
      refine pr_istore_n 8 dX4_beginLine_7 rfl (pm_st_1 rfl rfl) rfl ?_
      refine pr_iload_n 9 dX4_beginLine_8 rfl rfl rfl ?_
      refine pr_iconst (5) 10 dX4_beginLine_9 (by decide) rfl ?_
      refine pr_icmp_ne 17 13 dX4_beginLine_10 rfl rfl (fun c_10 => ?_) (fun c_10 => absurd (c_10) (n5))
      refine pr_iconst (0) 18 dX4_beginLine_17 (by decide) rfl ?_
      refine pr_aload_n 19 dX4_beginLine_18 rfl rfl rfl ?_
      refine pr_getI 22 dX4_beginLine_19 fX4_33 rfl ?_
      rw [hl]
      refine pr_if_ne 29 25 dX4_beginLine_22 rfl rfl (fun c_22 => ?_) (fun c_22 => absurd (c_22) (n0))
      refine pr_iconst (0) 30 dX4_beginLine_29 (by decide) rfl ?_
      refine pr_icmp_eq 39 33 dX4_beginLine_30 rfl rfl (fun c_30 => ?_) (fun c_30 => absurd (rfl) (c_30))
      refine pr_iload_n 40 dX4_beginLine_39 rfl rfl rfl ?_
      refine pr_table 155 dX4_beginLine_40 (Or.inr ⟨by decide, by decide, 115, rfl, rfl⟩) ?_
      refine pr_aload_n 156 dX4_beginLine_155 rfl rfl rfl ?_
      refine pr_iload_n 157 dX4_beginLine_156 rfl rfl rfl ?_
      refine pr_iconst (3) 158 dX4_beginLine_157 (by decide) rfl ?_
      refine pr_aload_n 159 dX4_beginLine_158 rfl rfl rfl ?_
      refine pr_getP d 162 dX4_beginLine_159 fX4_24 hd rfl ?_
      refine pr_getI 165 dX4_beginLine_162 fX4_100 rfl ?_
      rw [h0]
      refine pr_bipush (16) 167 dX4_beginLine_165 (by decide) rfl ?_
      refine pr_icmp_ge 174 170 dX4_beginLine_167 rfl rfl (fun c_167 => ?_) (fun c_167 => absurd ((nI_leI (a := 16) (by omega) (by omega)).mpr (by omega)) (c_167))
      refine pr_iconst (0) 175 dX4_beginLine_174 (by decide) rfl ?_
      refine pr_invD3 178 dX4_beginLine_175 vX4_87 mX4_beginLineOf (sp_X4_beginLineOf h _ _ (P := False)) ⟨Nat.le_of_ble_eq_true rfl, Nat.le_of_ble_eq_true rfl⟩ (Nat.le_of_ble_eq_true rfl) rfl ?_
      refine pr_zreturn dX4_beginLine_178 rfl (by first | exact Or.inl rfl | exact Or.inr rfl) ?_
      exact ⟨rfl, rfl⟩
  · rw [show (if k = 6 then (if s.K 37 < 12 then 0 else 4) else if k = 7 then (if s.K 38 < 4 then 0 else 4) else if k = 8 then (if s.K 39 < 16 then 0 else 4) else if k = 9 then (if s.K 40 < 16 then 0 else 4) else 1) = 1 by rw [if_neg (by omega), if_neg (by omega), if_neg (by omega), if_neg (by omega)]]
    have hsw : (nI k).toInt < 5 ∨ 9 < (nI k).toInt := by rw [nI_toInt (by omega)]; omega
    refine pr_aload_n 1 dX4_beginLine_0 rfl rfl rfl ?_
    refine pr_getR0 4 dX4_beginLine_1 fX4_20 rfl ?_
    refine pr_getI 7 dX4_beginLine_4 fX4_52 rfl ?_
    rw [hk]
    refine pr_istore_n 8 dX4_beginLine_7 rfl (pm_st_1 rfl rfl) rfl ?_
    refine pr_iload_n 9 dX4_beginLine_8 rfl rfl rfl ?_
    refine pr_iconst (5) 10 dX4_beginLine_9 (by decide) rfl ?_
    refine pr_icmp_ne 17 13 dX4_beginLine_10 rfl rfl (fun c_10 => ?_) (fun c_10 => absurd (c_10) (n5))
    refine pr_iconst (0) 18 dX4_beginLine_17 (by decide) rfl ?_
    refine pr_aload_n 19 dX4_beginLine_18 rfl rfl rfl ?_
    refine pr_getI 22 dX4_beginLine_19 fX4_33 rfl ?_
    rw [hl]
    refine pr_if_ne 29 25 dX4_beginLine_22 rfl rfl (fun c_22 => ?_) (fun c_22 => absurd (c_22) (n0))
    refine pr_iconst (0) 30 dX4_beginLine_29 (by decide) rfl ?_
    refine pr_icmp_eq 39 33 dX4_beginLine_30 rfl rfl (fun c_30 => ?_) (fun c_30 => absurd (rfl) (c_30))
    refine pr_iload_n 40 dX4_beginLine_39 rfl rfl rfl ?_
    refine pr_table 179 dX4_beginLine_40 (Or.inl ⟨hsw, rfl⟩) ?_
    refine pr_aload_n 180 dX4_beginLine_179 rfl rfl rfl ?_
    refine pr_iconst (1) 181 dX4_beginLine_180 (by decide) rfl ?_
    refine pr_invD1 184 dX4_beginLine_181 vX4_62 mX4_refuse (sp_X4_refuse h 1) ⟨Nat.le_of_ble_eq_true rfl, Nat.le_of_ble_eq_true rfl⟩ (Nat.le_of_ble_eq_true rfl) rfl ?_
    refine pr_zreturn dX4_beginLine_184 rfl (by first | exact Or.inl rfl | exact Or.inr rfl) ?_
    exact ⟨rfl, rfl⟩
end BLN
