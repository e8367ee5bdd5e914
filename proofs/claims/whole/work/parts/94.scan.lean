/-! the class: the scanner's small methods; the reader's -/
theorem wk_lt (B : Nat → Nat) (q n : Nat) : wk B q n < 14 := by
  unfold wk
  repeat' split
  all_goals omega
theorem tK_lt (B : Nat → Nat) (T p : Nat) : tK B T p < 14 := by
  have := wk_lt B (tQ B T p) (rn B T (tQ B T p) - tQ B T p)
  unfold tK
  repeat' split
  all_goals omega
section SCN
variable {mem mem0 : pm_M} {T p : Nat} {B : Nat → Nat}
set_option maxRecDepth 100000 in
theorem sp_X7_byteAt (h : tapC mem T B) (hT : T ≤ 840) (hp : p < 2000) : Cd yX7_byteAt cX7_byteAt 2 (some .int) 0 0 [pR 10007907 0, pI (nI p)] mem (some (pI (nI (byt B T p)))) mem := by
  refine Cl.of (own := RX7) rfl rfl (Nat.le_of_ble_eq_true rfl) rfl ?_; show PR _ _ _ _ _ _ [some _, some _] _ _ _
  by_cases z : p < T
  · refine pr_iload_n 1 dX7_byteAt_0 rfl rfl rfl ?_
    refine pr_if_lt 21 4 dX7_byteAt_1 rfl rfl (fun c_1 => absurd (c_1) (nI_pos (by omega))) (fun c_1 => ?_)
    refine pr_iload_n 5 dX7_byteAt_4 rfl rfl rfl ?_
    refine pr_aload_n 6 dX7_byteAt_5 rfl rfl rfl ?_
    refine pr_getI 9 dX7_byteAt_6 fX7_19 rfl ?_
    rw [h.1]
    refine pr_icmp_ge 21 12 dX7_byteAt_9 rfl rfl (fun c_9 => absurd (c_9) (nI_ge z (by omega))) (fun c_9 => ?_)
    refine pr_iload_n 13 dX7_byteAt_12 rfl rfl rfl ?_
    refine pr_aload_n 14 dX7_byteAt_13 rfl rfl rfl ?_
    refine pr_getR0 17 dX7_byteAt_14 fX7_9 rfl ?_
    refine pr_alenB 18 dX7_byteAt_17 rfl rfl rfl ?_
    refine pr_icmp_lt 23 21 dX7_byteAt_18 rfl rfl (fun c_18 => ?_) (fun c_18 => absurd (nI_lt (by omega) (by omega)) (c_18))
    refine pr_aload_n 24 dX7_byteAt_23 rfl rfl rfl ?_
    refine pr_getR0 27 dX7_byteAt_24 fX7_9 rfl ?_
    refine pr_iload_n 28 dX7_byteAt_27 rfl rfl rfl ?_
    refine pr_baload p 29 dX7_byteAt_28 rfl rfl rfl (by omega) rfl ?_
    refine pr_sipush (255) 32 dX7_byteAt_29 (by decide) rfl ?_
    refine pr_iand 33 dX7_byteAt_32 rfl ?_
    rw [h.2 p z]
    refine pr_ireturn dX7_byteAt_33 rfl ?_
    exact ⟨by rw [byt, if_pos z], rfl⟩
  · refine pr_iload_n 1 dX7_byteAt_0 rfl rfl rfl ?_
    refine pr_if_lt 21 4 dX7_byteAt_1 rfl rfl (fun c_1 => absurd (c_1) (nI_pos (by omega))) (fun c_1 => ?_)
    refine pr_iload_n 5 dX7_byteAt_4 rfl rfl rfl ?_
    refine pr_aload_n 6 dX7_byteAt_5 rfl rfl rfl ?_
    refine pr_getI 9 dX7_byteAt_6 fX7_19 rfl ?_
    rw [h.1]
    refine pr_icmp_ge 21 12 dX7_byteAt_9 rfl rfl (fun c_9 => ?_) (fun c_9 => absurd ((nI_leI (by omega) (by omega)).mpr (by omega)) (c_9))
    refine pr_iconst (0) 22 dX7_byteAt_21 (by decide) rfl ?_
    refine pr_ireturn dX7_byteAt_22 rfl ?_
    exact ⟨by rw [byt, if_neg z]; rfl, rfl⟩
set_option maxRecDepth 100000 in
theorem sp_X6_isLetter {b : Nat} (hb : b < 256) : Cd yX6_isLetter cX6_isLetter 1 (some .boolean) 0 0 [pI (nI b)] mem (some (pI (if isL b = true then 1 else 0))) mem := by
  have e1 : nI b < 97 ↔ b < 97 := nI_ltI (b := 97) (by omega) (by omega)
  have e2 : 122 < nI b ↔ 122 < b := nI_ltI (a := 122) (by omega) (by omega)
  refine Cl.of (own := RX6) rfl rfl (Nat.le_of_ble_eq_true rfl) rfl ?_; show PR _ _ _ _ _ _ [some _] _ _ _
  refine pr_iload_n 1 dX6_isLetter_0 rfl rfl rfl ?_
  refine pr_bipush (97) 3 dX6_isLetter_1 (by decide) rfl ?_
  refine pr_icmp_lt 16 6 dX6_isLetter_3 rfl rfl (fun c_3 => ?_) (fun c_3 => ?_)
  · rw [e1] at c_3
    refine pr_iconst (0) 17 dX6_isLetter_16 (by decide) rfl ?_
    refine pr_zreturn dX6_isLetter_17 rfl (by first | exact Or.inl rfl | exact Or.inr rfl) ?_
    exact ⟨by rw [if_neg (by simp [isL]; omega)], rfl⟩
  · rw [e1] at c_3
    refine pr_iload_n 7 dX6_isLetter_6 rfl rfl rfl ?_
    refine pr_bipush (122) 9 dX6_isLetter_7 (by decide) rfl ?_
    refine pr_icmp_gt 16 12 dX6_isLetter_9 rfl rfl (fun c_9 => ?_) (fun c_9 => ?_)
    · rw [e2] at c_9
      refine pr_iconst (0) 17 dX6_isLetter_16 (by decide) rfl ?_
      refine pr_zreturn dX6_isLetter_17 rfl (by first | exact Or.inl rfl | exact Or.inr rfl) ?_
      exact ⟨by rw [if_neg (by simp [isL]; omega)], rfl⟩
    · rw [e2] at c_9
      refine pr_iconst (1) 13 dX6_isLetter_12 (by decide) rfl ?_
      refine pr_goto 17 dX6_isLetter_13 rfl ?_
      refine pr_zreturn dX6_isLetter_17 rfl (by first | exact Or.inl rfl | exact Or.inr rfl) ?_
      exact ⟨by rw [if_pos (by simp [isL]; omega)], rfl⟩
set_option maxRecDepth 100000 in
theorem sp_X6_isDigit {b : Nat} (hb : b < 256) : Cd yX6_isDigit cX6_isDigit 1 (some .boolean) 0 0 [pI (nI b)] mem (some (pI (if isD b = true then 1 else 0))) mem := by
  have e1 : nI b < 48 ↔ b < 48 := nI_ltI (b := 48) (by omega) (by omega)
  have e2 : 57 < nI b ↔ 57 < b := nI_ltI (a := 57) (by omega) (by omega)
  refine Cl.of (own := RX6) rfl rfl (Nat.le_of_ble_eq_true rfl) rfl ?_; show PR _ _ _ _ _ _ [some _] _ _ _
  refine pr_iload_n 1 dX6_isDigit_0 rfl rfl rfl ?_
  refine pr_bipush (48) 3 dX6_isDigit_1 (by decide) rfl ?_
  refine pr_icmp_lt 16 6 dX6_isDigit_3 rfl rfl (fun c_3 => ?_) (fun c_3 => ?_)
  · rw [e1] at c_3
    refine pr_iconst (0) 17 dX6_isDigit_16 (by decide) rfl ?_
    refine pr_zreturn dX6_isDigit_17 rfl (by first | exact Or.inl rfl | exact Or.inr rfl) ?_
    exact ⟨by rw [if_neg (by simp [isD]; omega)], rfl⟩
  · rw [e1] at c_3
    refine pr_iload_n 7 dX6_isDigit_6 rfl rfl rfl ?_
    refine pr_bipush (57) 9 dX6_isDigit_7 (by decide) rfl ?_
    refine pr_icmp_gt 16 12 dX6_isDigit_9 rfl rfl (fun c_9 => ?_) (fun c_9 => ?_)
    · rw [e2] at c_9
      refine pr_iconst (0) 17 dX6_isDigit_16 (by decide) rfl ?_
      refine pr_zreturn dX6_isDigit_17 rfl (by first | exact Or.inl rfl | exact Or.inr rfl) ?_
      exact ⟨by rw [if_neg (by simp [isD]; omega)], rfl⟩
    · rw [e2] at c_9
      refine pr_iconst (1) 13 dX6_isDigit_12 (by decide) rfl ?_
      refine pr_goto 17 dX6_isDigit_13 rfl ?_
      refine pr_zreturn dX6_isDigit_17 rfl (by first | exact Or.inl rfl | exact Or.inr rfl) ?_
      exact ⟨by rw [if_pos (by simp [isD]; omega)], rfl⟩
set_option maxRecDepth 100000 in
theorem sp_X6_isBlank {b : Nat} (hb : b < 256) : Cd yX6_isBlank cX6_isBlank 1 (some .boolean) 0 0 [pI (nI b)] mem (some (pI (if isB b = true then 1 else 0))) mem := by
  have e1 : nI b = 32 ↔ b = 32 := nI_eq (b := 32) (by omega) (by omega)
  have e2 : nI b = 10 ↔ b = 10 := nI_eq (b := 10) (by omega) (by omega)
  refine Cl.of (own := RX6) rfl rfl (Nat.le_of_ble_eq_true rfl) rfl ?_; show PR _ _ _ _ _ _ [some _] _ _ _
  refine pr_iload_n 1 dX6_isBlank_0 rfl rfl rfl ?_
  refine pr_bipush (32) 3 dX6_isBlank_1 (by decide) rfl ?_
  refine pr_icmp_eq 12 6 dX6_isBlank_3 rfl rfl (fun c_3 => ?_) (fun c_3 => ?_)
  · rw [e1] at c_3
    refine pr_iconst (1) 13 dX6_isBlank_12 (by decide) rfl ?_
    refine pr_goto 17 dX6_isBlank_13 rfl ?_
    refine pr_zreturn dX6_isBlank_17 rfl (by first | exact Or.inl rfl | exact Or.inr rfl) ?_
    exact ⟨by rw [if_pos (by simp [isB, c_3])], rfl⟩
  · rw [e1] at c_3
    refine pr_iload_n 7 dX6_isBlank_6 rfl rfl rfl ?_
    refine pr_bipush (10) 9 dX6_isBlank_7 (by decide) rfl ?_
    refine pr_icmp_ne 16 12 dX6_isBlank_9 rfl rfl (fun c_9 => ?_) (fun c_9 => ?_)
    · have c2 : ¬ b = 10 := fun z => c_9 (e2.mpr z)
      refine pr_iconst (0) 17 dX6_isBlank_16 (by decide) rfl ?_
      refine pr_zreturn dX6_isBlank_17 rfl (by first | exact Or.inl rfl | exact Or.inr rfl) ?_
      exact ⟨by rw [if_neg (by simp [isB, c_3, c2])], rfl⟩
    · rw [e2] at c_9
      refine pr_iconst (1) 13 dX6_isBlank_12 (by decide) rfl ?_
      refine pr_goto 17 dX6_isBlank_13 rfl ?_
      refine pr_zreturn dX6_isBlank_17 rfl (by first | exact Or.inl rfl | exact Or.inr rfl) ?_
      exact ⟨by rw [if_pos (by simp [isB, c_9])], rfl⟩
set_option maxRecDepth 100000 in
theorem sp_X6_hasTooMany (h : tapC mem T B) (hT : T ≤ 840) : Cd yX6_hasTooMany cX6_hasTooMany 1 (some .boolean) 0 0 [pR 10006906 0] mem (some (pI (if T ≤ 800 then 0 else 1))) mem := by
  refine Cl.of (own := RX6) rfl rfl (Nat.le_of_ble_eq_true rfl) rfl ?_; show PR _ _ _ _ _ _ [some _] _ _ _
  by_cases z : T ≤ 800
  · rw [if_pos z]
    refine pr_aload_n 1 dX6_hasTooMany_0 rfl rfl rfl ?_
    refine pr_getR0 4 dX6_hasTooMany_1 fX6_9 rfl ?_
    refine pr_getI 7 dX6_hasTooMany_4 fX6_19 rfl ?_
    rw [h.1]
    refine pr_sipush (800) 10 dX6_hasTooMany_7 (by decide) rfl ?_
    refine pr_icmp_le 17 13 dX6_hasTooMany_10 rfl rfl (fun c_10 => ?_) (fun c_10 => absurd ((nI_leI (b := 800) (by omega) (by omega)).mpr z) (c_10))
    refine pr_iconst (0) 18 dX6_hasTooMany_17 (by decide) rfl ?_
    refine pr_zreturn dX6_hasTooMany_18 rfl (by first | exact Or.inl rfl | exact Or.inr rfl) ?_
    exact ⟨rfl, rfl⟩
  · rw [if_neg z]
    refine pr_aload_n 1 dX6_hasTooMany_0 rfl rfl rfl ?_
    refine pr_getR0 4 dX6_hasTooMany_1 fX6_9 rfl ?_
    refine pr_getI 7 dX6_hasTooMany_4 fX6_19 rfl ?_
    rw [h.1]
    refine pr_sipush (800) 10 dX6_hasTooMany_7 (by decide) rfl ?_
    refine pr_icmp_le 17 13 dX6_hasTooMany_10 rfl rfl (fun c_10 => absurd (c_10) (fun y => z ((nI_leI (b := 800) (by omega) (by omega)).mp y))) (fun c_10 => ?_)
    refine pr_iconst (1) 14 dX6_hasTooMany_13 (by decide) rfl ?_
    refine pr_goto 18 dX6_hasTooMany_14 rfl ?_
    refine pr_zreturn dX6_hasTooMany_18 rfl (by first | exact Or.inl rfl | exact Or.inr rfl) ?_
    exact ⟨rfl, rfl⟩
/-- what the scanner holds of its token -/
def ctk (mem : pm_M) (B : Nat → Nat) (T p : Nat) : Prop := mem.1 10006906 0 1 = nI (tK B T p) ∧ mem.1 10006906 0 2 = nI (tS B T p) ∧ (tK B T p = 2 → mem.1 10006906 0 3 = nI (tV B T p)) ∧ (2 ≤ tK B T p → mem.1 10006906 0 4 = nI (tN B T p))
set_option maxRecDepth 100000 in
theorem sp_X4_refuse (h : ctk mem B T p) (e : Int32) : Cd yX4_refuse cX4_refuse 2 (some .boolean) 0 0 [pR 10004904 0, pI e] mem (some (pI 0)) (pm_uI (pm_uI mem 10004904 0 3 e) 10004904 0 4 (nI (tS B T p))) := by
  refine Cl.of (own := RX4) rfl rfl (Nat.le_of_ble_eq_true rfl) rfl ?_; show PR _ _ _ _ _ _ [some _, some _] _ _ _
  refine pr_aload_n 1 dX4_refuse_0 rfl rfl rfl ?_
  refine pr_iload_n 2 dX4_refuse_1 rfl rfl rfl ?_
  refine pr_putI 5 dX4_refuse_2 fX4_37 rfl ?_
  refine pr_aload_n 6 dX4_refuse_5 rfl rfl rfl ?_
  refine pr_aload_n 7 dX4_refuse_6 rfl rfl rfl ?_
  refine pr_getR0 10 dX4_refuse_7 fX4_20 rfl ?_
  refine pr_getI 13 dX4_refuse_10 fX4_66 rfl ?_
  rw [pm_gIn (by simp), h.2.1]
  refine pr_putI 16 dX4_refuse_13 fX4_40 rfl ?_
  refine pr_iconst (0) 17 dX4_refuse_16 (by decide) rfl ?_
  refine pr_zreturn dX4_refuse_17 rfl (by first | exact Or.inl rfl | exact Or.inr rfl) ?_
  exact ⟨rfl, rfl⟩
set_option maxRecDepth 100000 in
theorem sp_X4_keepField {n : Nat} (h : mem.1 10004904 0 7 = nI n) (hn : n < 3) (v : Int32) : Cd yX4_keepField cX4_keepField 2 (some .boolean) 0 0 [pR 10004904 0, pI v] mem (some (pI 1)) (pm_uI (pm_uI mem 20003166 0 n v) 10004904 0 7 (nI (n + 1))) := by
  refine Cl.of (own := RX4) rfl rfl (Nat.le_of_ble_eq_true rfl) rfl ?_; show PR _ _ _ _ _ _ [some _, some _] _ _ _
  refine pr_aload_n 1 dX4_keepField_0 rfl rfl rfl ?_
  refine pr_getI 4 dX4_keepField_1 fX4_72 rfl ?_
  rw [h]
  refine pr_iconst (3) 5 dX4_keepField_4 (by decide) rfl ?_
  refine pr_icmp_ge 28 8 dX4_keepField_5 rfl rfl (fun c_5 => absurd (c_5) (nI_ge (b := 3) hn (by omega))) (fun c_5 => ?_)
  refine pr_aload_n 9 dX4_keepField_8 rfl rfl rfl ?_
  refine pr_getR0 12 dX4_keepField_9 fX4_9 rfl ?_
  refine pr_aload_n 13 dX4_keepField_12 rfl rfl rfl ?_
  refine pr_getI 16 dX4_keepField_13 fX4_72 rfl ?_
  rw [h]
  refine pr_iload_n 17 dX4_keepField_16 rfl rfl rfl ?_
  refine pr_iastore n 18 dX4_keepField_17 rfl rfl rfl (by omega) rfl ?_
  refine pr_aload_n 19 dX4_keepField_18 rfl rfl rfl ?_
  refine pr_dup rfl 20 dX4_keepField_19 rfl ?_
  refine pr_getI 23 dX4_keepField_20 fX4_72 rfl ?_
  rw [pm_gIn (by simp), h]
  refine pr_iconst (1) 24 dX4_keepField_23 (by decide) rfl ?_
  refine pr_iadd 25 dX4_keepField_24 rfl ?_
  rw [nI_1]
  refine pr_putI 28 dX4_keepField_25 fX4_72 rfl ?_
  refine pr_iconst (1) 29 dX4_keepField_28 (by decide) rfl ?_
  refine pr_zreturn dX4_keepField_29 rfl (by first | exact Or.inl rfl | exact Or.inr rfl) ?_
  exact ⟨rfl, rfl⟩
/-- a fault is told -/
abbrev rfM (mem : pm_M) (e : Nat) (q : Nat) : pm_M := pm_uI (pm_uI mem 10004904 0 3 (nI e)) 10004904 0 4 (nI q)
abbrev kpM (mem : pm_M) (n : Nat) (v : Int32) : pm_M := pm_uI (pm_uI mem 20003166 0 n v) 10004904 0 7 (nI (n + 1))
set_option maxRecDepth 100000 in
theorem sp_X4_isNumberTold (h : ctk mem B T p) {c : Nat} (hc : c < 2000) : Cd yX4_isNumberTold cX4_isNumberTold 2 (some .boolean) 1 21 [pR 10004904 0, pI (nI c)] mem (some (pI (if tK B T p = 2 ∧ tV B T p < c then 1 else 0))) (if tK B T p = 2 ∧ tV B T p < c then mem else rfM mem (if tK B T p = 2 then 3 else 1) (tS B T p)) := by
  refine Cl.of (own := RX4) rfl rfl (Nat.le_of_ble_eq_true rfl) rfl ?_; show PR _ _ _ _ _ _ [some _, some _] _ _ _
  by_cases k2 : tK B T p = 2
  · have hv := tV_lt k2
    by_cases hl : tV B T p < c
    · rw [if_pos ⟨k2, hl⟩, if_pos ⟨k2, hl⟩]
      refine pr_aload_n 1 dX4_isNumberTold_0 rfl rfl rfl ?_
      refine pr_getR0 4 dX4_isNumberTold_1 fX4_20 rfl ?_
      refine pr_getI 7 dX4_isNumberTold_4 fX4_52 rfl ?_
      rw [h.1, k2]
      refine pr_iconst (2) 8 dX4_isNumberTold_7 (by decide) rfl ?_
      refine pr_icmp_eq 17 11 dX4_isNumberTold_8 rfl rfl (fun c_8 => ?_) (fun c_8 => absurd (rfl) (c_8))
      refine pr_aload_n 18 dX4_isNumberTold_17 rfl rfl rfl ?_
      refine pr_getR0 21 dX4_isNumberTold_18 fX4_20 rfl ?_
      refine pr_getI 24 dX4_isNumberTold_21 fX4_132 rfl ?_
      rw [h.2.2.1 k2]
      refine pr_iload_n 25 dX4_isNumberTold_24 rfl rfl rfl ?_
      refine pr_icmp_lt 36 28 dX4_isNumberTold_25 rfl rfl (fun c_25 => ?_) (fun c_25 => absurd (nI_lt hl (by omega)) (c_25))
      refine pr_iconst (1) 37 dX4_isNumberTold_36 (by decide) rfl ?_
      refine pr_goto 41 dX4_isNumberTold_37 rfl ?_
      refine pr_zreturn dX4_isNumberTold_41 rfl (by first | exact Or.inl rfl | exact Or.inr rfl) ?_
      exact ⟨rfl, rfl⟩
    · rw [if_neg (fun z => hl z.2), if_neg (fun z => hl z.2), if_pos k2]
      refine pr_aload_n 1 dX4_isNumberTold_0 rfl rfl rfl ?_
      refine pr_getR0 4 dX4_isNumberTold_1 fX4_20 rfl ?_
      refine pr_getI 7 dX4_isNumberTold_4 fX4_52 rfl ?_
      rw [h.1, k2]
      refine pr_iconst (2) 8 dX4_isNumberTold_7 (by decide) rfl ?_
      refine pr_icmp_eq 17 11 dX4_isNumberTold_8 rfl rfl (fun c_8 => ?_) (fun c_8 => absurd (rfl) (c_8))
      refine pr_aload_n 18 dX4_isNumberTold_17 rfl rfl rfl ?_
      refine pr_getR0 21 dX4_isNumberTold_18 fX4_20 rfl ?_
      refine pr_getI 24 dX4_isNumberTold_21 fX4_132 rfl ?_
      rw [h.2.2.1 k2]
      refine pr_iload_n 25 dX4_isNumberTold_24 rfl rfl rfl ?_
      refine pr_icmp_lt 36 28 dX4_isNumberTold_25 rfl rfl (fun c_25 => absurd (c_25) (nI_nlt (by omega) (by omega))) (fun c_25 => ?_)
      refine pr_aload_n 29 dX4_isNumberTold_28 rfl rfl rfl ?_
      refine pr_iconst (3) 30 dX4_isNumberTold_29 (by decide) rfl ?_
      refine pr_invD1 33 dX4_isNumberTold_30 vX4_62 mX4_refuse (sp_X4_refuse h 3) ⟨Nat.le_of_ble_eq_true rfl, Nat.le_of_ble_eq_true rfl⟩ (Nat.le_of_ble_eq_true rfl) rfl ?_
      refine pr_if_eq 40 36 dX4_isNumberTold_33 rfl rfl (fun c_33 => ?_) (fun c_33 => absurd (rfl) (c_33))
      refine pr_iconst (0) 41 dX4_isNumberTold_40 (by decide) rfl ?_
      refine pr_zreturn dX4_isNumberTold_41 rfl (by first | exact Or.inl rfl | exact Or.inr rfl) ?_
      exact ⟨rfl, rfl⟩
  · rw [if_neg (fun z => k2 z.1), if_neg (fun z => k2 z.1), if_neg k2]
    have hkb := tK_lt B T p
    refine pr_aload_n 1 dX4_isNumberTold_0 rfl rfl rfl ?_
    refine pr_getR0 4 dX4_isNumberTold_1 fX4_20 rfl ?_
    refine pr_getI 7 dX4_isNumberTold_4 fX4_52 rfl ?_
    rw [h.1]
    refine pr_iconst (2) 8 dX4_isNumberTold_7 (by decide) rfl ?_
    refine pr_icmp_eq 17 11 dX4_isNumberTold_8 rfl rfl (fun c_8 => absurd (c_8) (fun z => k2 ((nI_eq (b := 2) (by omega) (by omega)).mp z))) (fun c_8 => ?_)
    refine pr_aload_n 12 dX4_isNumberTold_11 rfl rfl rfl ?_
    refine pr_iconst (1) 13 dX4_isNumberTold_12 (by decide) rfl ?_
    refine pr_invD1 16 dX4_isNumberTold_13 vX4_62 mX4_refuse (sp_X4_refuse h 1) ⟨Nat.le_of_ble_eq_true rfl, Nat.le_of_ble_eq_true rfl⟩ (Nat.le_of_ble_eq_true rfl) rfl ?_
    refine pr_zreturn dX4_isNumberTold_16 rfl (by first | exact Or.inl rfl | exact Or.inr rfl) ?_
    exact ⟨rfl, rfl⟩
set_option maxRecDepth 100000 in
theorem sp_X4_takeNumber (h : ctk mem B T p) {lo hi n : Nat} (hh : lo < 10000 ∧ hi < 10000) (hc : mem.1 10004904 0 7 = nI n) (hn : n < 3) : Cd yX4_takeNumber cX4_takeNumber 3 (some .boolean) 1 21 [pR 10004904 0, pI (nI lo), pI (nI hi)] mem (some (pI (if tK B T p = 2 ∧ lo ≤ tV B T p ∧ tV B T p ≤ hi then 1 else 0))) (if tK B T p = 2 ∧ lo ≤ tV B T p ∧ tV B T p ≤ hi then kpM mem n (nI (tV B T p)) else rfM mem (if tK B T p = 2 then 2 else 1) (tS B T p)) := by
  refine Cl.of (own := RX4) rfl rfl (Nat.le_of_ble_eq_true rfl) rfl ?_; show PR _ _ _ _ _ _ [some _, some _, some _] _ _ _
  by_cases k2 : tK B T p = 2
  · have hv := tV_lt k2
    by_cases hl : lo ≤ tV B T p ∧ tV B T p ≤ hi
    · rw [if_pos ⟨k2, hl⟩, if_pos ⟨k2, hl⟩]
      refine pr_aload_n 1 dX4_takeNumber_0 rfl rfl rfl ?_
      refine pr_getR0 4 dX4_takeNumber_1 fX4_20 rfl ?_
      refine pr_getI 7 dX4_takeNumber_4 fX4_52 rfl ?_
      rw [h.1, k2]
      refine pr_iconst (2) 8 dX4_takeNumber_7 (by decide) rfl ?_
      refine pr_icmp_eq 17 11 dX4_takeNumber_8 rfl rfl (fun c_8 => ?_) (fun c_8 => absurd (rfl) (c_8))
      refine pr_aload_n 18 dX4_takeNumber_17 rfl rfl rfl ?_
      refine pr_getR0 21 dX4_takeNumber_18 fX4_20 rfl ?_
      refine pr_getI 24 dX4_takeNumber_21 fX4_132 rfl ?_
      rw [h.2.2.1 k2]
      refine pr_iload_n 25 dX4_takeNumber_24 rfl rfl rfl ?_
      refine pr_icmp_lt 39 28 dX4_takeNumber_25 rfl rfl (fun c_25 => absurd (c_25) (nI_nlt hl.1 (by omega))) (fun c_25 => ?_)
      refine pr_aload_n 29 dX4_takeNumber_28 rfl rfl rfl ?_
      refine pr_getR0 32 dX4_takeNumber_29 fX4_20 rfl ?_
      refine pr_getI 35 dX4_takeNumber_32 fX4_132 rfl ?_
      rw [h.2.2.1 k2]
      refine pr_iload_n 36 dX4_takeNumber_35 rfl rfl rfl ?_
      refine pr_icmp_le 45 39 dX4_takeNumber_36 rfl rfl (fun c_36 => ?_) (fun c_36 => absurd ((nI_leI (by omega) (by omega)).mpr hl.2) (c_36))
      refine pr_aload_n 46 dX4_takeNumber_45 rfl rfl rfl ?_
      refine pr_aload_n 47 dX4_takeNumber_46 rfl rfl rfl ?_
      refine pr_getR0 50 dX4_takeNumber_47 fX4_20 rfl ?_
      refine pr_getI 53 dX4_takeNumber_50 fX4_132 rfl ?_
      rw [h.2.2.1 k2]
      refine pr_invD1 56 dX4_takeNumber_53 vX4_125 mX4_keepField (sp_X4_keepField hc hn _) ⟨Nat.le_of_ble_eq_true rfl, Nat.le_of_ble_eq_true rfl⟩ (Nat.le_of_ble_eq_true rfl) rfl ?_
      refine pr_zreturn dX4_takeNumber_56 rfl (by first | exact Or.inl rfl | exact Or.inr rfl) ?_
      exact ⟨rfl, rfl⟩
    · rw [if_neg (fun z => hl z.2), if_neg (fun z => hl z.2), if_pos k2]
      refine pr_aload_n 1 dX4_takeNumber_0 rfl rfl rfl ?_
      refine pr_getR0 4 dX4_takeNumber_1 fX4_20 rfl ?_
      refine pr_getI 7 dX4_takeNumber_4 fX4_52 rfl ?_
      rw [h.1, k2]
      refine pr_iconst (2) 8 dX4_takeNumber_7 (by decide) rfl ?_
      refine pr_icmp_eq 17 11 dX4_takeNumber_8 rfl rfl (fun c_8 => ?_) (fun c_8 => absurd (rfl) (c_8))
      refine pr_aload_n 18 dX4_takeNumber_17 rfl rfl rfl ?_
      refine pr_getR0 21 dX4_takeNumber_18 fX4_20 rfl ?_
      refine pr_getI 24 dX4_takeNumber_21 fX4_132 rfl ?_
      rw [h.2.2.1 k2]
      refine pr_iload_n 25 dX4_takeNumber_24 rfl rfl rfl ?_
      refine pr_icmp_lt 39 28 dX4_takeNumber_25 rfl rfl (fun c_25 => ?_) (fun c_25 => ?_)
      · refine pr_aload_n 40 dX4_takeNumber_39 rfl rfl rfl ?_
        refine pr_iconst (2) 41 dX4_takeNumber_40 (by decide) rfl ?_
        refine pr_invD1 44 dX4_takeNumber_41 vX4_62 mX4_refuse (sp_X4_refuse h 2) ⟨Nat.le_of_ble_eq_true rfl, Nat.le_of_ble_eq_true rfl⟩ (Nat.le_of_ble_eq_true rfl) rfl ?_
        refine pr_zreturn dX4_takeNumber_44 rfl (by first | exact Or.inl rfl | exact Or.inr rfl) ?_
        exact ⟨rfl, rfl⟩
      · refine pr_aload_n 29 dX4_takeNumber_28 rfl rfl rfl ?_
        refine pr_getR0 32 dX4_takeNumber_29 fX4_20 rfl ?_
        refine pr_getI 35 dX4_takeNumber_32 fX4_132 rfl ?_
        rw [h.2.2.1 k2]
        refine pr_iload_n 36 dX4_takeNumber_35 rfl rfl rfl ?_
        refine pr_icmp_le 45 39 dX4_takeNumber_36 rfl rfl (fun c_36 => ?_) (fun c_36 => ?_)
        · exact absurd ⟨by have := i32_nlt c_25; rw [nI_leI (by omega) (by omega)] at this; exact this, (nI_leI (by omega) (by omega)).mp c_36⟩ hl
        · refine pr_aload_n 40 dX4_takeNumber_39 rfl rfl rfl ?_
          refine pr_iconst (2) 41 dX4_takeNumber_40 (by decide) rfl ?_
          refine pr_invD1 44 dX4_takeNumber_41 vX4_62 mX4_refuse (sp_X4_refuse h 2) ⟨Nat.le_of_ble_eq_true rfl, Nat.le_of_ble_eq_true rfl⟩ (Nat.le_of_ble_eq_true rfl) rfl ?_
          refine pr_zreturn dX4_takeNumber_44 rfl (by first | exact Or.inl rfl | exact Or.inr rfl) ?_
          exact ⟨rfl, rfl⟩
  · rw [if_neg (fun z => k2 z.1), if_neg (fun z => k2 z.1), if_neg k2]
    have hkb := tK_lt B T p
    refine pr_aload_n 1 dX4_takeNumber_0 rfl rfl rfl ?_
    refine pr_getR0 4 dX4_takeNumber_1 fX4_20 rfl ?_
    refine pr_getI 7 dX4_takeNumber_4 fX4_52 rfl ?_
    rw [h.1]
    refine pr_iconst (2) 8 dX4_takeNumber_7 (by decide) rfl ?_
    refine pr_icmp_eq 17 11 dX4_takeNumber_8 rfl rfl (fun c_8 => absurd (c_8) (fun z => k2 ((nI_eq (b := 2) (by omega) (by omega)).mp z))) (fun c_8 => ?_)
    refine pr_aload_n 12 dX4_takeNumber_11 rfl rfl rfl ?_
    refine pr_iconst (1) 13 dX4_takeNumber_12 (by decide) rfl ?_
    refine pr_invD1 16 dX4_takeNumber_13 vX4_62 mX4_refuse (sp_X4_refuse h 1) ⟨Nat.le_of_ble_eq_true rfl, Nat.le_of_ble_eq_true rfl⟩ (Nat.le_of_ble_eq_true rfl) rfl ?_
    refine pr_zreturn dX4_takeNumber_16 rfl (by first | exact Or.inl rfl | exact Or.inr rfl) ?_
    exact ⟨rfl, rfl⟩
set_option maxRecDepth 100000 in
theorem sp_X4_takeNumberTold (h : ctk mem B T p) {c n : Nat} (hcc : c < 2000) (hc : mem.1 10004904 0 7 = nI n) (hn : n < 3) : Cd yX4_takeNumberTold cX4_takeNumberTold 2 (some .boolean) 2 42 [pR 10004904 0, pI (nI c)] mem (some (pI (if tK B T p = 2 ∧ tV B T p < c then 1 else 0))) (if tK B T p = 2 ∧ tV B T p < c then kpM mem n (nI (tV B T p)) else rfM mem (if tK B T p = 2 then 3 else 1) (tS B T p)) := by
  have h1 := sp_X4_isNumberTold h hcc
  refine Cl.of (own := RX4) rfl rfl (Nat.le_of_ble_eq_true rfl) rfl ?_; show PR _ _ _ _ _ _ [some _, some _] _ _ _
  by_cases o : tK B T p = 2 ∧ tV B T p < c
  · rw [if_pos o, if_pos o] at h1 ⊢
    refine pr_aload_n 1 dX4_takeNumberTold_0 rfl rfl rfl ?_
    refine pr_iload_n 2 dX4_takeNumberTold_1 rfl rfl rfl ?_
    refine pr_invD1 5 dX4_takeNumberTold_2 vX4_135 mX4_isNumberTold (h1) ⟨Nat.le_of_ble_eq_true rfl, Nat.le_of_ble_eq_true rfl⟩ (Nat.le_of_ble_eq_true rfl) rfl ?_
    refine pr_if_eq 26 8 dX4_takeNumberTold_5 rfl rfl (fun c_5 => absurd (c_5) (by decide)) (fun c_5 => ?_)
    refine pr_aload_n 9 dX4_takeNumberTold_8 rfl rfl rfl ?_
    refine pr_aload_n 10 dX4_takeNumberTold_9 rfl rfl rfl ?_
    refine pr_getR0 13 dX4_takeNumberTold_10 fX4_20 rfl ?_
    refine pr_getI 16 dX4_takeNumberTold_13 fX4_132 rfl ?_
    rw [h.2.2.1 o.1]
    refine pr_invD1 19 dX4_takeNumberTold_16 vX4_125 mX4_keepField (sp_X4_keepField hc hn _) ⟨Nat.le_of_ble_eq_true rfl, Nat.le_of_ble_eq_true rfl⟩ (Nat.le_of_ble_eq_true rfl) rfl ?_
    refine pr_if_eq 26 22 dX4_takeNumberTold_19 rfl rfl (fun c_19 => absurd (c_19) (by decide)) (fun c_19 => ?_)
    refine pr_iconst (1) 23 dX4_takeNumberTold_22 (by decide) rfl ?_
    refine pr_goto 27 dX4_takeNumberTold_23 rfl ?_
    refine pr_zreturn dX4_takeNumberTold_27 rfl (by first | exact Or.inl rfl | exact Or.inr rfl) ?_
    exact ⟨rfl, rfl⟩
  · rw [if_neg o, if_neg o] at h1 ⊢
    refine pr_aload_n 1 dX4_takeNumberTold_0 rfl rfl rfl ?_
    refine pr_iload_n 2 dX4_takeNumberTold_1 rfl rfl rfl ?_
    refine pr_invD1 5 dX4_takeNumberTold_2 vX4_135 mX4_isNumberTold (h1) ⟨Nat.le_of_ble_eq_true rfl, Nat.le_of_ble_eq_true rfl⟩ (Nat.le_of_ble_eq_true rfl) rfl ?_
    refine pr_if_eq 26 8 dX4_takeNumberTold_5 rfl rfl (fun c_5 => ?_) (fun c_5 => absurd (rfl) (c_5))
    refine pr_iconst (0) 27 dX4_takeNumberTold_26 (by decide) rfl ?_
    refine pr_zreturn dX4_takeNumberTold_27 rfl (by first | exact Or.inl rfl | exact Or.inr rfl) ?_
    exact ⟨rfl, rfl⟩
end SCN
