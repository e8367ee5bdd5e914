/-! the class: the scanner begins; a line begins -/
section BEG
variable {mem mem0 : pm_M} {T p : Nat} {B : Nat → Nat}
set_option maxRecDepth 100000 in
theorem sp_X6_begin (h : tapC mem0 T B) (hT : T ≤ 840) : Cl yX6_begin cX6_begin 1 none 1 22 [pR 10006906 0] mem0 (fun r mem => r = none ∧ pm_fr sSc mem0 mem ∧ mem.1 10006906 0 4 = nI 0 ∧ mem.1 10006906 0 5 = nI (min T 800)) := by
  have e : (if 800 < nI T then 800 else nI T) = nI (min T 800) := by
    by_cases z : T ≤ 800
    · rw [if_neg (show ¬ (800 : Int32) < nI T from nI_nlt (a := 800) (by omega) (by omega)), Nat.min_eq_left z]
    · rw [if_pos (show (800 : Int32) < nI T from nI_lt (a := 800) (by omega) (by omega)), Nat.min_eq_right (by omega)]
      rfl
  refine Cl.of (own := RX6) rfl rfl (Nat.le_of_ble_eq_true rfl) rfl ?_; show PR _ _ _ _ _ _ [some _] _ _ _
  refine pr_aload_n 1 dX6_begin_0 rfl rfl rfl ?_
  refine pr_iconst (0) 2 dX6_begin_1 (by decide) rfl ?_
  refine pr_putI 5 dX6_begin_2 fX6_15 rfl ?_
  refine pr_aload_n 6 dX6_begin_5 rfl rfl rfl ?_
  refine pr_aload_n 7 dX6_begin_6 rfl rfl rfl ?_
  refine pr_getR0 10 dX6_begin_7 fX6_9 rfl ?_
  refine pr_getI 13 dX6_begin_10 fX6_19 rfl ?_
  rw [pm_gIn (by simp), h.1]
  refine pr_sipush (800) 16 dX6_begin_13 (by decide) rfl ?_
  refine pr_mmin 19 dX6_begin_16 jX6_24 jm_min_s jm_i jm_min_c (Nat.le_of_ble_eq_true rfl) ⟨Nat.le_of_ble_eq_true rfl, Nat.le_of_ble_eq_true rfl⟩ rfl ?_
  rw [e]
  refine pr_putI 22 dX6_begin_19 fX6_30 rfl ?_
  refine pr_return dX6_begin_22 rfl ?_
  exact ⟨rfl, (pm_fr.rf.uI ⟨rfl, rfl⟩).uI ⟨rfl, rfl⟩, by rw [pm_gIn (by simp), pm_gIe]; rfl, pm_gIe⟩
/-- a line's word is taken -/
abbrev bgM (mem : pm_M) (w f : Int32) : pm_M := pm_uI (pm_uI (pm_uI (pm_uI (pm_uI (pm_uI mem 10004904 0 5 w) 10004904 0 8 f) 10004904 0 7 0) 10004904 0 9 (-1)) 10004904 0 10 0) 10004904 0 11 0
set_option maxRecDepth 100000 in
theorem sp_X4_beginLineOf (h : ctk mem B T p) (w f : Int32) {P : Prop} [Decidable P] : Cd yX4_beginLineOf cX4_beginLineOf 4 (some .boolean) 1 21 [pR 10004904 0, pI w, pI f, pI (if P then 1 else 0)] mem (some (pI (if P then 1 else 0))) (if P then bgM mem w f else rfM mem 4 (tS B T p)) := by
  refine Cl.of (own := RX4) rfl rfl (Nat.le_of_ble_eq_true rfl) rfl ?_; show PR _ _ _ _ _ _ [some _, some _, some _, some _] _ _ _
  by_cases z : P
  · simp only [if_pos z]
    refine pr_iload_n 1 dX4_beginLineOf_0 rfl rfl rfl ?_
    refine pr_if_ne 10 4 dX4_beginLineOf_1 rfl rfl (fun c_1 => ?_) (fun c_1 => absurd (c_1) (by decide))
    refine pr_aload_n 11 dX4_beginLineOf_10 rfl rfl rfl ?_
    refine pr_iload_n 12 dX4_beginLineOf_11 rfl rfl rfl ?_
    refine pr_putI 15 dX4_beginLineOf_12 fX4_43 rfl ?_
    refine pr_aload_n 16 dX4_beginLineOf_15 rfl rfl rfl ?_
    refine pr_iload_n 17 dX4_beginLineOf_16 rfl rfl rfl ?_
    refine pr_putI 20 dX4_beginLineOf_17 fX4_75 rfl ?_
    refine pr_aload_n 21 dX4_beginLineOf_20 rfl rfl rfl ?_
    refine pr_iconst (0) 22 dX4_beginLineOf_21 (by decide) rfl ?_
    refine pr_putI 25 dX4_beginLineOf_22 fX4_72 rfl ?_
    refine pr_aload_n 26 dX4_beginLineOf_25 rfl rfl rfl ?_
    refine pr_iconst (-1) 27 dX4_beginLineOf_26 (by decide) rfl ?_
    refine pr_putI 30 dX4_beginLineOf_27 fX4_103 rfl ?_
    refine pr_aload_n 31 dX4_beginLineOf_30 rfl rfl rfl ?_
    refine pr_iconst (0) 32 dX4_beginLineOf_31 (by decide) rfl ?_
    refine pr_putI 35 dX4_beginLineOf_32 fX4_106 rfl ?_
    refine pr_aload_n 36 dX4_beginLineOf_35 rfl rfl rfl ?_
    refine pr_iconst (0) 37 dX4_beginLineOf_36 (by decide) rfl ?_
    refine pr_putI 40 dX4_beginLineOf_37 fX4_109 rfl ?_
    refine pr_iconst (1) 41 dX4_beginLineOf_40 (by decide) rfl ?_
    refine pr_zreturn dX4_beginLineOf_41 rfl (by first | exact Or.inl rfl | exact Or.inr rfl) ?_
    exact ⟨rfl, rfl⟩
  · simp only [if_neg z]
    refine pr_iload_n 1 dX4_beginLineOf_0 rfl rfl rfl ?_
    refine pr_if_ne 10 4 dX4_beginLineOf_1 rfl rfl (fun c_1 => absurd (rfl) (c_1)) (fun c_1 => ?_)
    refine pr_aload_n 5 dX4_beginLineOf_4 rfl rfl rfl ?_
    refine pr_iconst (4) 6 dX4_beginLineOf_5 (by decide) rfl ?_
    refine pr_invD1 9 dX4_beginLineOf_6 vX4_62 mX4_refuse (sp_X4_refuse h 4) ⟨Nat.le_of_ble_eq_true rfl, Nat.le_of_ble_eq_true rfl⟩ (Nat.le_of_ble_eq_true rfl) rfl ?_
    refine pr_zreturn dX4_beginLineOf_9 rfl (by first | exact Or.inl rfl | exact Or.inr rfl) ?_
    exact ⟨rfl, rfl⟩
end BEG
