/-! the class: a line ends -/
section ENL
variable {mem : pm_M} {d n ln : Nat}
abbrev enM (mem : pm_M) (ln : Nat) : pm_M := pm_uI (pm_uI mem 10004904 0 5 (-1)) 10004904 0 2 (nI (ln + 1))
set_option maxRecDepth 100000 in
theorem sp_endLine5 (hd : mem.2.2 10004904 0 1 = some d) (hw : mem.1 10004904 0 5 = nI 5) (hl : mem.1 10004904 0 2 = nI ln) : Cd yX4_endLine cX4_endLine 1 (some .boolean) 1 23 [pR 10004904 0] mem (some (pI 1)) (enM (pm_uI mem 10000900 d 0 (mem.1 20003166 0 0)) ln) := by
  refine Cl.of (own := RX4) rfl rfl (Nat.le_of_ble_eq_true rfl) rfl ?_; show PR _ _ _ _ _ _ [some _] _ _ _
  refine pr_aload_n 1 dX4_endLine_0 rfl rfl rfl ?_
  refine pr_getI 4 dX4_endLine_1 fX4_43 rfl ?_
  rw [hw]
  refine pr_table 36 dX4_endLine_4 (Or.inr ⟨by decide, by decide, 32, rfl, rfl⟩) ?_
  refine pr_aload_n 37 dX4_endLine_36 rfl rfl rfl ?_
  refine pr_getP d 40 dX4_endLine_37 fX4_24 hd rfl ?_
  refine pr_aload_n 41 dX4_endLine_40 rfl rfl rfl ?_
  refine pr_getR0 44 dX4_endLine_41 fX4_9 rfl ?_
  refine pr_iconst (0) 45 dX4_endLine_44 (by decide) rfl ?_
  refine pr_iaload 0 46 dX4_endLine_45 rfl rfl rfl (by omega) rfl ?_
  refine pr_putI 49 dX4_endLine_46 fX4_145 rfl ?_
  refine pr_goto 124 dX4_endLine_49 rfl ?_
  refine pr_aload_n 125 dX4_endLine_124 rfl rfl rfl ?_
  refine pr_iconst (-1) 126 dX4_endLine_125 (by decide) rfl ?_
  refine pr_putI 129 dX4_endLine_126 fX4_43 rfl ?_
  refine pr_aload_n 130 dX4_endLine_129 rfl rfl rfl ?_
  refine pr_dup rfl 131 dX4_endLine_130 rfl ?_
  refine pr_getI 134 dX4_endLine_131 fX4_33 rfl ?_
  rw [pm_gIn (by simp), pm_gIn (by simp), hl]
  refine pr_iconst (1) 135 dX4_endLine_134 (by decide) rfl ?_
  refine pr_iadd 136 dX4_endLine_135 rfl ?_
  rw [nI_1]
  refine pr_putI 139 dX4_endLine_136 fX4_33 rfl ?_
  refine pr_iconst (1) 140 dX4_endLine_139 (by decide) rfl ?_
  refine pr_zreturn dX4_endLine_140 rfl (by first | exact Or.inl rfl | exact Or.inr rfl) ?_
  exact ⟨rfl, rfl⟩
set_option maxRecDepth 100000 in
theorem sp_endLine6 (hd : mem.2.2 10004904 0 1 = some d) (hw : mem.1 10004904 0 5 = nI 6) (hl : mem.1 10004904 0 2 = nI ln) (h : mem.1 10000900 d 1 = nI n) (hn : n < 12) : Cd yX4_endLine cX4_endLine 1 (some .boolean) 1 23 [pR 10004904 0] mem (some (pI 1)) (enM (pm_uI (pm_uI (pm_uI mem 20012006 d n (mem.1 20003166 0 0)) 20012007 d n (mem.1 20003166 0 1)) 10000900 d 1 (nI (n + 1))) ln) := by
  refine Cl.of (own := RX4) rfl rfl (Nat.le_of_ble_eq_true rfl) rfl ?_; show PR _ _ _ _ _ _ [some _] _ _ _
  refine pr_aload_n 1 dX4_endLine_0 rfl rfl rfl ?_
  refine pr_getI 4 dX4_endLine_1 fX4_43 rfl ?_
  rw [hw]
  refine pr_table 52 dX4_endLine_4 (Or.inr ⟨by decide, by decide, 48, rfl, rfl⟩) ?_
  refine pr_aload_n 53 dX4_endLine_52 rfl rfl rfl ?_
  refine pr_getP d 56 dX4_endLine_53 fX4_24 hd rfl ?_
  refine pr_aload_n 57 dX4_endLine_56 rfl rfl rfl ?_
  refine pr_getR0 60 dX4_endLine_57 fX4_9 rfl ?_
  refine pr_iconst (0) 61 dX4_endLine_60 (by decide) rfl ?_
  refine pr_iaload 0 62 dX4_endLine_61 rfl rfl rfl (by omega) rfl ?_
  refine pr_aload_n 63 dX4_endLine_62 rfl rfl rfl ?_
  refine pr_getR0 66 dX4_endLine_63 fX4_9 rfl ?_
  refine pr_iconst (1) 67 dX4_endLine_66 (by decide) rfl ?_
  refine pr_iaload 1 68 dX4_endLine_67 rfl rfl rfl (by omega) rfl ?_
  refine pr_inv02 71 dX4_endLine_68 vX4_148 mX0_addPlace (sp_X0_addPlace h hn _ _) ⟨Nat.le_of_ble_eq_true rfl, Nat.le_of_ble_eq_true rfl⟩ (Nat.le_of_ble_eq_true rfl) rfl ?_
  refine pr_goto 124 dX4_endLine_71 rfl ?_
  refine pr_aload_n 125 dX4_endLine_124 rfl rfl rfl ?_
  refine pr_iconst (-1) 126 dX4_endLine_125 (by decide) rfl ?_
  refine pr_putI 129 dX4_endLine_126 fX4_43 rfl ?_
  refine pr_aload_n 130 dX4_endLine_129 rfl rfl rfl ?_
  refine pr_dup rfl 131 dX4_endLine_130 rfl ?_
  refine pr_getI 134 dX4_endLine_131 fX4_33 rfl ?_
  rw [pm_gIn (by simp), pm_gIn (by simp), pm_gIn (by simp), pm_gIn (by simp), hl]
  refine pr_iconst (1) 135 dX4_endLine_134 (by decide) rfl ?_
  refine pr_iadd 136 dX4_endLine_135 rfl ?_
  rw [nI_1]
  refine pr_putI 139 dX4_endLine_136 fX4_33 rfl ?_
  refine pr_iconst (1) 140 dX4_endLine_139 (by decide) rfl ?_
  refine pr_zreturn dX4_endLine_140 rfl (by first | exact Or.inl rfl | exact Or.inr rfl) ?_
  exact ⟨rfl, rfl⟩
set_option maxRecDepth 100000 in
theorem sp_endLine7 (hd : mem.2.2 10004904 0 1 = some d) (hw : mem.1 10004904 0 5 = nI 7) (hl : mem.1 10004904 0 2 = nI ln) (h : mem.1 10000900 d 2 = nI n) (hn : n < 4) : Cd yX4_endLine cX4_endLine 1 (some .boolean) 1 23 [pR 10004904 0] mem (some (pI 1)) (enM (pm_uI (pm_uI (pm_uI mem 20004008 d n (mem.1 20003166 0 0)) 20004009 d n (mem.1 20003166 0 1)) 10000900 d 2 (nI (n + 1))) ln) := by
  refine Cl.of (own := RX4) rfl rfl (Nat.le_of_ble_eq_true rfl) rfl ?_; show PR _ _ _ _ _ _ [some _] _ _ _
  refine pr_aload_n 1 dX4_endLine_0 rfl rfl rfl ?_
  refine pr_getI 4 dX4_endLine_1 fX4_43 rfl ?_
  rw [hw]
  refine pr_table 74 dX4_endLine_4 (Or.inr ⟨by decide, by decide, 70, rfl, rfl⟩) ?_
  refine pr_aload_n 75 dX4_endLine_74 rfl rfl rfl ?_
  refine pr_getP d 78 dX4_endLine_75 fX4_24 hd rfl ?_
  refine pr_aload_n 79 dX4_endLine_78 rfl rfl rfl ?_
  refine pr_getR0 82 dX4_endLine_79 fX4_9 rfl ?_
  refine pr_iconst (0) 83 dX4_endLine_82 (by decide) rfl ?_
  refine pr_iaload 0 84 dX4_endLine_83 rfl rfl rfl (by omega) rfl ?_
  refine pr_aload_n 85 dX4_endLine_84 rfl rfl rfl ?_
  refine pr_getR0 88 dX4_endLine_85 fX4_9 rfl ?_
  refine pr_iconst (1) 89 dX4_endLine_88 (by decide) rfl ?_
  refine pr_iaload 1 90 dX4_endLine_89 rfl rfl rfl (by omega) rfl ?_
  refine pr_inv02 93 dX4_endLine_90 vX4_151 mX0_addTruck (sp_X0_addTruck h hn _ _) ⟨Nat.le_of_ble_eq_true rfl, Nat.le_of_ble_eq_true rfl⟩ (Nat.le_of_ble_eq_true rfl) rfl ?_
  refine pr_goto 124 dX4_endLine_93 rfl ?_
  refine pr_aload_n 125 dX4_endLine_124 rfl rfl rfl ?_
  refine pr_iconst (-1) 126 dX4_endLine_125 (by decide) rfl ?_
  refine pr_putI 129 dX4_endLine_126 fX4_43 rfl ?_
  refine pr_aload_n 130 dX4_endLine_129 rfl rfl rfl ?_
  refine pr_dup rfl 131 dX4_endLine_130 rfl ?_
  refine pr_getI 134 dX4_endLine_131 fX4_33 rfl ?_
  rw [pm_gIn (by simp), pm_gIn (by simp), pm_gIn (by simp), pm_gIn (by simp), hl]
  refine pr_iconst (1) 135 dX4_endLine_134 (by decide) rfl ?_
  refine pr_iadd 136 dX4_endLine_135 rfl ?_
  rw [nI_1]
  refine pr_putI 139 dX4_endLine_136 fX4_33 rfl ?_
  refine pr_iconst (1) 140 dX4_endLine_139 (by decide) rfl ?_
  refine pr_zreturn dX4_endLine_140 rfl (by first | exact Or.inl rfl | exact Or.inr rfl) ?_
  exact ⟨rfl, rfl⟩
set_option maxRecDepth 100000 in
theorem sp_endLine8 (hd : mem.2.2 10004904 0 1 = some d) (hw : mem.1 10004904 0 5 = nI 8) (hl : mem.1 10004904 0 2 = nI ln) (h : mem.1 10000900 d 3 = nI n) (hn : n < 16) : Cd yX4_endLine cX4_endLine 1 (some .boolean) 1 23 [pR 10004904 0] mem (some (pI 1)) (enM (pm_uI (pm_uI (pm_uI (pm_uI mem 20016010 d n (mem.1 20003166 0 0)) 20016011 d n (mem.1 20003166 0 1)) 20016012 d n (mem.1 20003166 0 2)) 10000900 d 3 (nI (n + 1))) ln) := by
  refine Cl.of (own := RX4) rfl rfl (Nat.le_of_ble_eq_true rfl) rfl ?_; show PR _ _ _ _ _ _ [some _] _ _ _
  refine pr_aload_n 1 dX4_endLine_0 rfl rfl rfl ?_
  refine pr_getI 4 dX4_endLine_1 fX4_43 rfl ?_
  rw [hw]
  refine pr_table 96 dX4_endLine_4 (Or.inr ⟨by decide, by decide, 92, rfl, rfl⟩) ?_
  refine pr_aload_n 97 dX4_endLine_96 rfl rfl rfl ?_
  refine pr_getP d 100 dX4_endLine_97 fX4_24 hd rfl ?_
  refine pr_aload_n 101 dX4_endLine_100 rfl rfl rfl ?_
  refine pr_getR0 104 dX4_endLine_101 fX4_9 rfl ?_
  refine pr_iconst (0) 105 dX4_endLine_104 (by decide) rfl ?_
  refine pr_iaload 0 106 dX4_endLine_105 rfl rfl rfl (by omega) rfl ?_
  refine pr_aload_n 107 dX4_endLine_106 rfl rfl rfl ?_
  refine pr_getR0 110 dX4_endLine_107 fX4_9 rfl ?_
  refine pr_iconst (1) 111 dX4_endLine_110 (by decide) rfl ?_
  refine pr_iaload 1 112 dX4_endLine_111 rfl rfl rfl (by omega) rfl ?_
  refine pr_aload_n 113 dX4_endLine_112 rfl rfl rfl ?_
  refine pr_getR0 116 dX4_endLine_113 fX4_9 rfl ?_
  refine pr_iconst (2) 117 dX4_endLine_116 (by decide) rfl ?_
  refine pr_iaload 2 118 dX4_endLine_117 rfl rfl rfl (by omega) rfl ?_
  refine pr_inv03 121 dX4_endLine_118 vX4_154 mX0_addLoad (sp_X0_addLoad h hn _ _ _) ⟨Nat.le_of_ble_eq_true rfl, Nat.le_of_ble_eq_true rfl⟩ (Nat.le_of_ble_eq_true rfl) rfl ?_
  refine pr_goto 124 dX4_endLine_121 rfl ?_
  refine pr_aload_n 125 dX4_endLine_124 rfl rfl rfl ?_
  refine pr_iconst (-1) 126 dX4_endLine_125 (by decide) rfl ?_
  refine pr_putI 129 dX4_endLine_126 fX4_43 rfl ?_
  refine pr_aload_n 130 dX4_endLine_129 rfl rfl rfl ?_
  refine pr_dup rfl 131 dX4_endLine_130 rfl ?_
  refine pr_getI 134 dX4_endLine_131 fX4_33 rfl ?_
  rw [pm_gIn (by simp), pm_gIn (by simp), pm_gIn (by simp), pm_gIn (by simp), pm_gIn (by simp), hl]
  refine pr_iconst (1) 135 dX4_endLine_134 (by decide) rfl ?_
  refine pr_iadd 136 dX4_endLine_135 rfl ?_
  rw [nI_1]
  refine pr_putI 139 dX4_endLine_136 fX4_33 rfl ?_
  refine pr_iconst (1) 140 dX4_endLine_139 (by decide) rfl ?_
  refine pr_zreturn dX4_endLine_140 rfl (by first | exact Or.inl rfl | exact Or.inr rfl) ?_
  exact ⟨rfl, rfl⟩
set_option maxRecDepth 100000 in
theorem sp_endLine9 (hw : mem.1 10004904 0 5 = nI 9) (hl : mem.1 10004904 0 2 = nI ln) : Cd yX4_endLine cX4_endLine 1 (some .boolean) 1 23 [pR 10004904 0] mem (some (pI 1)) (enM mem ln) := by
  refine Cl.of (own := RX4) rfl rfl (Nat.le_of_ble_eq_true rfl) rfl ?_; show PR _ _ _ _ _ _ [some _] _ _ _
  refine pr_aload_n 1 dX4_endLine_0 rfl rfl rfl ?_
  refine pr_getI 4 dX4_endLine_1 fX4_43 rfl ?_
  rw [hw]
  refine pr_table 124 dX4_endLine_4 (Or.inl ⟨by decide, rfl⟩) ?_
  refine pr_aload_n 125 dX4_endLine_124 rfl rfl rfl ?_
  refine pr_iconst (-1) 126 dX4_endLine_125 (by decide) rfl ?_
  refine pr_putI 129 dX4_endLine_126 fX4_43 rfl ?_
  refine pr_aload_n 130 dX4_endLine_129 rfl rfl rfl ?_
  refine pr_dup rfl 131 dX4_endLine_130 rfl ?_
  refine pr_getI 134 dX4_endLine_131 fX4_33 rfl ?_
  rw [pm_gIn (by simp), hl]
  refine pr_iconst (1) 135 dX4_endLine_134 (by decide) rfl ?_
  refine pr_iadd 136 dX4_endLine_135 rfl ?_
  rw [nI_1]
  refine pr_putI 139 dX4_endLine_136 fX4_33 rfl ?_
  refine pr_iconst (1) 140 dX4_endLine_139 (by decide) rfl ?_
  refine pr_zreturn dX4_endLine_140 rfl (by first | exact Or.inl rfl | exact Or.inr rfl) ?_
  exact ⟨rfl, rfl⟩
end ENL
