/-! the class: a load on, off -/
theorem nI_clr {on v : Nat} (hv : v < 31) (hb : on.testBit v = true) : nI on &&& (nI (2 ^ v) ^^^ -1) = nI (on ^^^ 2 ^ v) := by
  apply b_ext
  intro i hi
  rw [b_and, b_xor, b_m1 i hi, b_nI _ _ hi, b_nI _ _ hi, b_nI _ _ hi, Nat.testBit_xor, Nat.testBit_two_pow]
  by_cases z : v = i
  · subst z; simp [hb]
  · simp [z]
section STL
variable {mem : pm_M} {T p d n c m on was : Nat} {B : Nat → Nat}
set_option maxRecDepth 100000 in
theorem sp_stepOn (h : ctk mem B T p) (hd : mem.2.2 10004904 0 1 = some d) (hw : mem.1 10004904 0 9 = nI 12) (hp : mem.1 10000900 d 3 = nI c) (hcc : c ≤ 16) (ht : mem.1 10000900 d 4 = nI (n + 1)) (hn : n < 16) (hs : mem.1 10000900 d 5 = nI m) (hm : m < 200) (ho : mem.1 10004904 0 10 = nI on) (hwa : mem.1 10004904 0 11 = nI was) : Cd yX4_takeNumberOfStep cX4_takeNumberOfStep 2 (some .boolean) 2 42 [pR 10004904 0] mem (some (pI (if tlOk B T p c ∧ ¬ was.testBit (tV B T p) = true then 1 else 0))) (if tlOk B T p c ∧ ¬ was.testBit (tV B T p) = true then adM (pm_uI (pm_uI mem 10004904 0 10 (nI (on ||| 2 ^ tV B T p))) 10004904 0 11 (nI (was ||| 2 ^ tV B T p))) d n m (nI 12) (nI (tV B T p)) else rfM mem (if tK B T p = 2 then 3 else 1) (tS B T p)) := by
  have h1 := sp_X4_isNumberTold h (show c < 2000 by omega)
  refine Cl.of (own := RX4) rfl rfl (Nat.le_of_ble_eq_true rfl) rfl ?_; show PR _ _ _ _ _ _ [some _, none] _ _ _
  by_cases o : tlOk B T p c
  · have hv : tV B T p < 16 := by have := o.2; omega
    rw [if_pos o, if_pos o] at h1
    have hbit := nI_shr1 (w := was) (l := tV B T p) (by omega)
    by_cases b : was.testBit (tV B T p) = true
    · rw [if_neg (fun z => z.2 b), if_neg (fun z => z.2 b), if_pos o.1]
      refine pr_aload_n 1 dX4_takeNumberOfStep_0 rfl rfl rfl ?_
      refine pr_aload_n 2 dX4_takeNumberOfStep_1 rfl rfl rfl ?_
      refine pr_getI 5 dX4_takeNumberOfStep_2 fX4_103 rfl ?_
      rw [hw]
      refine pr_bipush (11) 7 dX4_takeNumberOfStep_5 (by decide) rfl ?_
      refine pr_icmp_ne 20 10 dX4_takeNumberOfStep_7 rfl rfl (fun c_7 => ?_) (fun c_7 => absurd (c_7) (by decide))
      refine pr_aload_n 21 dX4_takeNumberOfStep_20 rfl rfl rfl ?_
      refine pr_getP d 24 dX4_takeNumberOfStep_21 fX4_24 hd rfl ?_
      refine pr_getI 27 dX4_takeNumberOfStep_24 fX4_97 rfl ?_
      rw [hp]
      refine pr_invD1 30 dX4_takeNumberOfStep_27 vX4_135 mX4_isNumberTold (h1) ⟨Nat.le_of_ble_eq_true rfl, Nat.le_of_ble_eq_true rfl⟩ (Nat.le_of_ble_eq_true rfl) rfl ?_
      refine pr_if_ne 35 33 dX4_takeNumberOfStep_30 rfl rfl (fun c_30 => ?_) (fun c_30 => absurd (c_30) (by decide))
      refine pr_aload_n 36 dX4_takeNumberOfStep_35 rfl rfl rfl ?_
      refine pr_getR0 39 dX4_takeNumberOfStep_36 fX4_20 rfl ?_
      refine pr_getI 42 dX4_takeNumberOfStep_39 fX4_132 rfl ?_
      rw [h.2.2.1 o.1]
      refine pr_istore_n 43 dX4_takeNumberOfStep_42 rfl (pm_st_1 rfl rfl) rfl ?_
      refine pr_aload_n 44 dX4_takeNumberOfStep_43 rfl rfl rfl ?_
      refine pr_getI 47 dX4_takeNumberOfStep_44 fX4_103 rfl ?_
      rw [hw]
      refine pr_bipush (12) 49 dX4_takeNumberOfStep_47 (by decide) rfl ?_
      refine pr_icmp_ne 96 52 dX4_takeNumberOfStep_49 rfl rfl (fun c_49 => absurd (rfl) (c_49)) (fun c_49 => ?_)
      refine pr_aload_n 53 dX4_takeNumberOfStep_52 rfl rfl rfl ?_
      refine pr_getI 56 dX4_takeNumberOfStep_53 fX4_109 rfl ?_
      rw [hwa]
      refine pr_iload_n 57 dX4_takeNumberOfStep_56 rfl rfl rfl ?_
      refine pr_ishr 58 dX4_takeNumberOfStep_57 rfl ?_
      refine pr_iconst (1) 59 dX4_takeNumberOfStep_58 (by decide) rfl ?_
      refine pr_iand 60 dX4_takeNumberOfStep_59 rfl ?_
      rw [hbit, if_pos b]
      refine pr_if_eq 69 63 dX4_takeNumberOfStep_60 rfl rfl (fun c_60 => absurd (c_60) (by decide)) (fun c_60 => ?_)
      refine pr_aload_n 64 dX4_takeNumberOfStep_63 rfl rfl rfl ?_
      refine pr_iconst (3) 65 dX4_takeNumberOfStep_64 (by decide) rfl ?_
      refine pr_invD1 68 dX4_takeNumberOfStep_65 vX4_62 mX4_refuse (sp_X4_refuse h 3) ⟨Nat.le_of_ble_eq_true rfl, Nat.le_of_ble_eq_true rfl⟩ (Nat.le_of_ble_eq_true rfl) rfl ?_
      refine pr_zreturn dX4_takeNumberOfStep_68 rfl (by first | exact Or.inl rfl | exact Or.inr rfl) ?_
      exact ⟨rfl, rfl⟩
    · rw [if_pos ⟨o, b⟩, if_pos ⟨o, b⟩]
      have ht' : ((pm_uI (pm_uI mem 10004904 0 10 (nI (on ||| 2 ^ tV B T p))) 10004904 0 11 (nI (was ||| 2 ^ tV B T p)))).1 10000900 d 4 = nI (n + 1) := by rw [pm_gIn (by simp), pm_gIn (by simp)]; exact ht
      have hs' : ((pm_uI (pm_uI mem 10004904 0 10 (nI (on ||| 2 ^ tV B T p))) 10004904 0 11 (nI (was ||| 2 ^ tV B T p)))).1 10000900 d 5 = nI m := by rw [pm_gIn (by simp), pm_gIn (by simp)]; exact hs
      refine pr_aload_n 1 dX4_takeNumberOfStep_0 rfl rfl rfl ?_
      refine pr_aload_n 2 dX4_takeNumberOfStep_1 rfl rfl rfl ?_
      refine pr_getI 5 dX4_takeNumberOfStep_2 fX4_103 rfl ?_
      rw [hw]
      refine pr_bipush (11) 7 dX4_takeNumberOfStep_5 (by decide) rfl ?_
      refine pr_icmp_ne 20 10 dX4_takeNumberOfStep_7 rfl rfl (fun c_7 => ?_) (fun c_7 => absurd (c_7) (by decide))
      refine pr_aload_n 21 dX4_takeNumberOfStep_20 rfl rfl rfl ?_
      refine pr_getP d 24 dX4_takeNumberOfStep_21 fX4_24 hd rfl ?_
      refine pr_getI 27 dX4_takeNumberOfStep_24 fX4_97 rfl ?_
      rw [hp]
      refine pr_invD1 30 dX4_takeNumberOfStep_27 vX4_135 mX4_isNumberTold (h1) ⟨Nat.le_of_ble_eq_true rfl, Nat.le_of_ble_eq_true rfl⟩ (Nat.le_of_ble_eq_true rfl) rfl ?_
      refine pr_if_ne 35 33 dX4_takeNumberOfStep_30 rfl rfl (fun c_30 => ?_) (fun c_30 => absurd (c_30) (by decide))
      refine pr_aload_n 36 dX4_takeNumberOfStep_35 rfl rfl rfl ?_
      refine pr_getR0 39 dX4_takeNumberOfStep_36 fX4_20 rfl ?_
      refine pr_getI 42 dX4_takeNumberOfStep_39 fX4_132 rfl ?_
      rw [h.2.2.1 o.1]
      refine pr_istore_n 43 dX4_takeNumberOfStep_42 rfl (pm_st_1 rfl rfl) rfl ?_
      refine pr_aload_n 44 dX4_takeNumberOfStep_43 rfl rfl rfl ?_
      refine pr_getI 47 dX4_takeNumberOfStep_44 fX4_103 rfl ?_
      rw [hw]
      refine pr_bipush (12) 49 dX4_takeNumberOfStep_47 (by decide) rfl ?_
      refine pr_icmp_ne 96 52 dX4_takeNumberOfStep_49 rfl rfl (fun c_49 => absurd (rfl) (c_49)) (fun c_49 => ?_)
      refine pr_aload_n 53 dX4_takeNumberOfStep_52 rfl rfl rfl ?_
      refine pr_getI 56 dX4_takeNumberOfStep_53 fX4_109 rfl ?_
      rw [hwa]
      refine pr_iload_n 57 dX4_takeNumberOfStep_56 rfl rfl rfl ?_
      refine pr_ishr 58 dX4_takeNumberOfStep_57 rfl ?_
      refine pr_iconst (1) 59 dX4_takeNumberOfStep_58 (by decide) rfl ?_
      refine pr_iand 60 dX4_takeNumberOfStep_59 rfl ?_
      rw [hbit, if_neg b]
      refine pr_if_eq 69 63 dX4_takeNumberOfStep_60 rfl rfl (fun c_60 => ?_) (fun c_60 => absurd (rfl) (c_60))
      refine pr_aload_n 70 dX4_takeNumberOfStep_69 rfl rfl rfl ?_
      refine pr_dup rfl 71 dX4_takeNumberOfStep_70 rfl ?_
      refine pr_getI 74 dX4_takeNumberOfStep_71 fX4_106 rfl ?_
      rw [ho]
      refine pr_iconst (1) 75 dX4_takeNumberOfStep_74 (by decide) rfl ?_
      refine pr_iload_n 76 dX4_takeNumberOfStep_75 rfl rfl rfl ?_
      refine pr_ishl 77 dX4_takeNumberOfStep_76 rfl ?_
      rw [nI_shl1 _ (by omega)]
      refine pr_ior 78 dX4_takeNumberOfStep_77 rfl ?_
      rw [nI_orN]
      refine pr_putI 81 dX4_takeNumberOfStep_78 fX4_106 rfl ?_
      refine pr_aload_n 82 dX4_takeNumberOfStep_81 rfl rfl rfl ?_
      refine pr_dup rfl 83 dX4_takeNumberOfStep_82 rfl ?_
      refine pr_getI 86 dX4_takeNumberOfStep_83 fX4_109 rfl ?_
      rw [pm_gIn (by simp), hwa]
      refine pr_iconst (1) 87 dX4_takeNumberOfStep_86 (by decide) rfl ?_
      refine pr_iload_n 88 dX4_takeNumberOfStep_87 rfl rfl rfl ?_
      refine pr_ishl 89 dX4_takeNumberOfStep_88 rfl ?_
      rw [nI_shl1 _ (by omega)]
      refine pr_ior 90 dX4_takeNumberOfStep_89 rfl ?_
      rw [nI_orN]
      refine pr_putI 93 dX4_takeNumberOfStep_90 fX4_109 rfl ?_
      refine pr_goto 136 dX4_takeNumberOfStep_93 rfl ?_
      refine pr_aload_n 137 dX4_takeNumberOfStep_136 rfl rfl rfl ?_
      refine pr_getP d 140 dX4_takeNumberOfStep_137 fX4_24 hd rfl ?_
      refine pr_aload_n 141 dX4_takeNumberOfStep_140 rfl rfl rfl ?_
      refine pr_getI 144 dX4_takeNumberOfStep_141 fX4_103 rfl ?_
      rw [pm_gIn (by simp), pm_gIn (by simp), hw]
      refine pr_iload_n 145 dX4_takeNumberOfStep_144 rfl rfl rfl ?_
      refine pr_inv02 148 dX4_takeNumberOfStep_145 vX4_141 mX0_addStep (sp_X0_addStep ht' hn hs' hm _ _) ⟨Nat.le_of_ble_eq_true rfl, Nat.le_of_ble_eq_true rfl⟩ (Nat.le_of_ble_eq_true rfl) rfl ?_
      refine pr_aload_n 149 dX4_takeNumberOfStep_148 rfl rfl rfl ?_
      refine pr_iconst (-1) 150 dX4_takeNumberOfStep_149 (by decide) rfl ?_
      refine pr_putI 153 dX4_takeNumberOfStep_150 fX4_103 rfl ?_
      refine pr_iconst (1) 154 dX4_takeNumberOfStep_153 (by decide) rfl ?_
      refine pr_zreturn dX4_takeNumberOfStep_154 rfl (by first | exact Or.inl rfl | exact Or.inr rfl) ?_
      exact ⟨rfl, rfl⟩
  · rw [if_neg (fun z => o z.1), if_neg (fun z => o z.1)]
    rw [if_neg o, if_neg o] at h1
    refine pr_aload_n 1 dX4_takeNumberOfStep_0 rfl rfl rfl ?_
    refine pr_aload_n 2 dX4_takeNumberOfStep_1 rfl rfl rfl ?_
    refine pr_getI 5 dX4_takeNumberOfStep_2 fX4_103 rfl ?_
    rw [hw]
    refine pr_bipush (11) 7 dX4_takeNumberOfStep_5 (by decide) rfl ?_
    refine pr_icmp_ne 20 10 dX4_takeNumberOfStep_7 rfl rfl (fun c_7 => ?_) (fun c_7 => absurd (c_7) (by decide))
    refine pr_aload_n 21 dX4_takeNumberOfStep_20 rfl rfl rfl ?_
    refine pr_getP d 24 dX4_takeNumberOfStep_21 fX4_24 hd rfl ?_
    refine pr_getI 27 dX4_takeNumberOfStep_24 fX4_97 rfl ?_
    rw [hp]
    refine pr_invD1 30 dX4_takeNumberOfStep_27 vX4_135 mX4_isNumberTold (h1) ⟨Nat.le_of_ble_eq_true rfl, Nat.le_of_ble_eq_true rfl⟩ (Nat.le_of_ble_eq_true rfl) rfl ?_
    refine pr_if_ne 35 33 dX4_takeNumberOfStep_30 rfl rfl (fun c_30 => absurd (rfl) (c_30)) (fun c_30 => ?_)
    refine pr_iconst (0) 34 dX4_takeNumberOfStep_33 (by decide) rfl ?_
    refine pr_zreturn dX4_takeNumberOfStep_34 rfl (by first | exact Or.inl rfl | exact Or.inr rfl) ?_
    exact ⟨rfl, rfl⟩
set_option maxRecDepth 100000 in
theorem sp_stepOff (h : ctk mem B T p) (hd : mem.2.2 10004904 0 1 = some d) (hw : mem.1 10004904 0 9 = nI 13) (hp : mem.1 10000900 d 3 = nI c) (hcc : c ≤ 16) (ht : mem.1 10000900 d 4 = nI (n + 1)) (hn : n < 16) (hs : mem.1 10000900 d 5 = nI m) (hm : m < 200) (ho : mem.1 10004904 0 10 = nI on) : Cd yX4_takeNumberOfStep cX4_takeNumberOfStep 2 (some .boolean) 2 42 [pR 10004904 0] mem (some (pI (if tlOk B T p c ∧ on.testBit (tV B T p) = true then 1 else 0))) (if tlOk B T p c ∧ on.testBit (tV B T p) = true then adM (pm_uI mem 10004904 0 10 (nI (on ^^^ 2 ^ tV B T p))) d n m (nI 13) (nI (tV B T p)) else rfM mem (if tK B T p = 2 then 3 else 1) (tS B T p)) := by
  have h1 := sp_X4_isNumberTold h (show c < 2000 by omega)
  refine Cl.of (own := RX4) rfl rfl (Nat.le_of_ble_eq_true rfl) rfl ?_; show PR _ _ _ _ _ _ [some _, none] _ _ _
  by_cases o : tlOk B T p c
  · have hv : tV B T p < 16 := by have := o.2; omega
    rw [if_pos o, if_pos o] at h1
    have hbit := nI_shr1 (w := on) (l := tV B T p) (by omega)
    by_cases b : on.testBit (tV B T p) = true
    · rw [if_pos ⟨o, b⟩, if_pos ⟨o, b⟩]
      have ht' : ((pm_uI mem 10004904 0 10 (nI (on ^^^ 2 ^ tV B T p)))).1 10000900 d 4 = nI (n + 1) := by rw [pm_gIn (by simp)]; exact ht
      have hs' : ((pm_uI mem 10004904 0 10 (nI (on ^^^ 2 ^ tV B T p)))).1 10000900 d 5 = nI m := by rw [pm_gIn (by simp)]; exact hs
      refine pr_aload_n 1 dX4_takeNumberOfStep_0 rfl rfl rfl ?_
      refine pr_aload_n 2 dX4_takeNumberOfStep_1 rfl rfl rfl ?_
      refine pr_getI 5 dX4_takeNumberOfStep_2 fX4_103 rfl ?_
      rw [hw]
      refine pr_bipush (11) 7 dX4_takeNumberOfStep_5 (by decide) rfl ?_
      refine pr_icmp_ne 20 10 dX4_takeNumberOfStep_7 rfl rfl (fun c_7 => ?_) (fun c_7 => absurd (c_7) (by decide))
      refine pr_aload_n 21 dX4_takeNumberOfStep_20 rfl rfl rfl ?_
      refine pr_getP d 24 dX4_takeNumberOfStep_21 fX4_24 hd rfl ?_
      refine pr_getI 27 dX4_takeNumberOfStep_24 fX4_97 rfl ?_
      rw [hp]
      refine pr_invD1 30 dX4_takeNumberOfStep_27 vX4_135 mX4_isNumberTold (h1) ⟨Nat.le_of_ble_eq_true rfl, Nat.le_of_ble_eq_true rfl⟩ (Nat.le_of_ble_eq_true rfl) rfl ?_
      refine pr_if_ne 35 33 dX4_takeNumberOfStep_30 rfl rfl (fun c_30 => ?_) (fun c_30 => absurd (c_30) (by decide))
      refine pr_aload_n 36 dX4_takeNumberOfStep_35 rfl rfl rfl ?_
      refine pr_getR0 39 dX4_takeNumberOfStep_36 fX4_20 rfl ?_
      refine pr_getI 42 dX4_takeNumberOfStep_39 fX4_132 rfl ?_
      rw [h.2.2.1 o.1]
      refine pr_istore_n 43 dX4_takeNumberOfStep_42 rfl (pm_st_1 rfl rfl) rfl ?_
      refine pr_aload_n 44 dX4_takeNumberOfStep_43 rfl rfl rfl ?_
      refine pr_getI 47 dX4_takeNumberOfStep_44 fX4_103 rfl ?_
      rw [hw]
      refine pr_bipush (12) 49 dX4_takeNumberOfStep_47 (by decide) rfl ?_
      refine pr_icmp_ne 96 52 dX4_takeNumberOfStep_49 rfl rfl (fun c_49 => ?_) (fun c_49 => absurd (c_49) (by decide))
      refine pr_aload_n 97 dX4_takeNumberOfStep_96 rfl rfl rfl ?_
      refine pr_getI 100 dX4_takeNumberOfStep_97 fX4_103 rfl ?_
      rw [hw]
      refine pr_bipush (13) 102 dX4_takeNumberOfStep_100 (by decide) rfl ?_
      refine pr_icmp_ne 136 105 dX4_takeNumberOfStep_102 rfl rfl (fun c_102 => absurd (rfl) (c_102)) (fun c_102 => ?_)
      refine pr_aload_n 106 dX4_takeNumberOfStep_105 rfl rfl rfl ?_
      refine pr_getI 109 dX4_takeNumberOfStep_106 fX4_106 rfl ?_
      rw [ho]
      refine pr_iload_n 110 dX4_takeNumberOfStep_109 rfl rfl rfl ?_
      refine pr_ishr 111 dX4_takeNumberOfStep_110 rfl ?_
      refine pr_iconst (1) 112 dX4_takeNumberOfStep_111 (by decide) rfl ?_
      refine pr_iand 113 dX4_takeNumberOfStep_112 rfl ?_
      rw [hbit, if_pos b]
      refine pr_if_ne 122 116 dX4_takeNumberOfStep_113 rfl rfl (fun c_113 => ?_) (fun c_113 => absurd (c_113) (by decide))
      refine pr_aload_n 123 dX4_takeNumberOfStep_122 rfl rfl rfl ?_
      refine pr_dup rfl 124 dX4_takeNumberOfStep_123 rfl ?_
      refine pr_getI 127 dX4_takeNumberOfStep_124 fX4_106 rfl ?_
      rw [ho]
      refine pr_iconst (1) 128 dX4_takeNumberOfStep_127 (by decide) rfl ?_
      refine pr_iload_n 129 dX4_takeNumberOfStep_128 rfl rfl rfl ?_
      refine pr_ishl 130 dX4_takeNumberOfStep_129 rfl ?_
      rw [nI_shl1 _ (by omega)]
      refine pr_iconst (-1) 131 dX4_takeNumberOfStep_130 (by decide) rfl ?_
      refine pr_ixor 132 dX4_takeNumberOfStep_131 rfl ?_
      refine pr_iand 133 dX4_takeNumberOfStep_132 rfl ?_
      rw [nI_clr (by omega) b]
      refine pr_putI 136 dX4_takeNumberOfStep_133 fX4_106 rfl ?_
      refine pr_aload_n 137 dX4_takeNumberOfStep_136 rfl rfl rfl ?_
      refine pr_getP d 140 dX4_takeNumberOfStep_137 fX4_24 hd rfl ?_
      refine pr_aload_n 141 dX4_takeNumberOfStep_140 rfl rfl rfl ?_
      refine pr_getI 144 dX4_takeNumberOfStep_141 fX4_103 rfl ?_
      rw [pm_gIn (by simp), hw]
      refine pr_iload_n 145 dX4_takeNumberOfStep_144 rfl rfl rfl ?_
      refine pr_inv02 148 dX4_takeNumberOfStep_145 vX4_141 mX0_addStep (sp_X0_addStep ht' hn hs' hm _ _) ⟨Nat.le_of_ble_eq_true rfl, Nat.le_of_ble_eq_true rfl⟩ (Nat.le_of_ble_eq_true rfl) rfl ?_
      refine pr_aload_n 149 dX4_takeNumberOfStep_148 rfl rfl rfl ?_
      refine pr_iconst (-1) 150 dX4_takeNumberOfStep_149 (by decide) rfl ?_
      refine pr_putI 153 dX4_takeNumberOfStep_150 fX4_103 rfl ?_
      refine pr_iconst (1) 154 dX4_takeNumberOfStep_153 (by decide) rfl ?_
      refine pr_zreturn dX4_takeNumberOfStep_154 rfl (by first | exact Or.inl rfl | exact Or.inr rfl) ?_
      exact ⟨rfl, rfl⟩
    · rw [if_neg (fun z => b z.2), if_neg (fun z => b z.2), if_pos o.1]
      refine pr_aload_n 1 dX4_takeNumberOfStep_0 rfl rfl rfl ?_
      refine pr_aload_n 2 dX4_takeNumberOfStep_1 rfl rfl rfl ?_
      refine pr_getI 5 dX4_takeNumberOfStep_2 fX4_103 rfl ?_
      rw [hw]
      refine pr_bipush (11) 7 dX4_takeNumberOfStep_5 (by decide) rfl ?_
      refine pr_icmp_ne 20 10 dX4_takeNumberOfStep_7 rfl rfl (fun c_7 => ?_) (fun c_7 => absurd (c_7) (by decide))
      refine pr_aload_n 21 dX4_takeNumberOfStep_20 rfl rfl rfl ?_
      refine pr_getP d 24 dX4_takeNumberOfStep_21 fX4_24 hd rfl ?_
      refine pr_getI 27 dX4_takeNumberOfStep_24 fX4_97 rfl ?_
      rw [hp]
      refine pr_invD1 30 dX4_takeNumberOfStep_27 vX4_135 mX4_isNumberTold (h1) ⟨Nat.le_of_ble_eq_true rfl, Nat.le_of_ble_eq_true rfl⟩ (Nat.le_of_ble_eq_true rfl) rfl ?_
      refine pr_if_ne 35 33 dX4_takeNumberOfStep_30 rfl rfl (fun c_30 => ?_) (fun c_30 => absurd (c_30) (by decide))
      refine pr_aload_n 36 dX4_takeNumberOfStep_35 rfl rfl rfl ?_
      refine pr_getR0 39 dX4_takeNumberOfStep_36 fX4_20 rfl ?_
      refine pr_getI 42 dX4_takeNumberOfStep_39 fX4_132 rfl ?_
      rw [h.2.2.1 o.1]
      refine pr_istore_n 43 dX4_takeNumberOfStep_42 rfl (pm_st_1 rfl rfl) rfl ?_
      refine pr_aload_n 44 dX4_takeNumberOfStep_43 rfl rfl rfl ?_
      refine pr_getI 47 dX4_takeNumberOfStep_44 fX4_103 rfl ?_
      rw [hw]
      refine pr_bipush (12) 49 dX4_takeNumberOfStep_47 (by decide) rfl ?_
      refine pr_icmp_ne 96 52 dX4_takeNumberOfStep_49 rfl rfl (fun c_49 => ?_) (fun c_49 => absurd (c_49) (by decide))
      refine pr_aload_n 97 dX4_takeNumberOfStep_96 rfl rfl rfl ?_
      refine pr_getI 100 dX4_takeNumberOfStep_97 fX4_103 rfl ?_
      rw [hw]
      refine pr_bipush (13) 102 dX4_takeNumberOfStep_100 (by decide) rfl ?_
      refine pr_icmp_ne 136 105 dX4_takeNumberOfStep_102 rfl rfl (fun c_102 => absurd (rfl) (c_102)) (fun c_102 => ?_)
      refine pr_aload_n 106 dX4_takeNumberOfStep_105 rfl rfl rfl ?_
      refine pr_getI 109 dX4_takeNumberOfStep_106 fX4_106 rfl ?_
      rw [ho]
      refine pr_iload_n 110 dX4_takeNumberOfStep_109 rfl rfl rfl ?_
      refine pr_ishr 111 dX4_takeNumberOfStep_110 rfl ?_
      refine pr_iconst (1) 112 dX4_takeNumberOfStep_111 (by decide) rfl ?_
      refine pr_iand 113 dX4_takeNumberOfStep_112 rfl ?_
      rw [hbit, if_neg b]
      refine pr_if_ne 122 116 dX4_takeNumberOfStep_113 rfl rfl (fun c_113 => absurd (rfl) (c_113)) (fun c_113 => ?_)
      refine pr_aload_n 117 dX4_takeNumberOfStep_116 rfl rfl rfl ?_
      refine pr_iconst (3) 118 dX4_takeNumberOfStep_117 (by decide) rfl ?_
      refine pr_invD1 121 dX4_takeNumberOfStep_118 vX4_62 mX4_refuse (sp_X4_refuse h 3) ⟨Nat.le_of_ble_eq_true rfl, Nat.le_of_ble_eq_true rfl⟩ (Nat.le_of_ble_eq_true rfl) rfl ?_
      refine pr_zreturn dX4_takeNumberOfStep_121 rfl (by first | exact Or.inl rfl | exact Or.inr rfl) ?_
      exact ⟨rfl, rfl⟩
  · rw [if_neg (fun z => o z.1), if_neg (fun z => o z.1)]
    rw [if_neg o, if_neg o] at h1
    refine pr_aload_n 1 dX4_takeNumberOfStep_0 rfl rfl rfl ?_
    refine pr_aload_n 2 dX4_takeNumberOfStep_1 rfl rfl rfl ?_
    refine pr_getI 5 dX4_takeNumberOfStep_2 fX4_103 rfl ?_
    rw [hw]
    refine pr_bipush (11) 7 dX4_takeNumberOfStep_5 (by decide) rfl ?_
    refine pr_icmp_ne 20 10 dX4_takeNumberOfStep_7 rfl rfl (fun c_7 => ?_) (fun c_7 => absurd (c_7) (by decide))
    refine pr_aload_n 21 dX4_takeNumberOfStep_20 rfl rfl rfl ?_
    refine pr_getP d 24 dX4_takeNumberOfStep_21 fX4_24 hd rfl ?_
    refine pr_getI 27 dX4_takeNumberOfStep_24 fX4_97 rfl ?_
    rw [hp]
    refine pr_invD1 30 dX4_takeNumberOfStep_27 vX4_135 mX4_isNumberTold (h1) ⟨Nat.le_of_ble_eq_true rfl, Nat.le_of_ble_eq_true rfl⟩ (Nat.le_of_ble_eq_true rfl) rfl ?_
    refine pr_if_ne 35 33 dX4_takeNumberOfStep_30 rfl rfl (fun c_30 => absurd (rfl) (c_30)) (fun c_30 => ?_)
    refine pr_iconst (0) 34 dX4_takeNumberOfStep_33 (by decide) rfl ?_
    refine pr_zreturn dX4_takeNumberOfStep_34 rfl (by first | exact Or.inl rfl | exact Or.inr rfl) ?_
    exact ⟨rfl, rfl⟩
end STL
