/-! the class: the next number of a line -/
section FLD
variable {mem : pm_M} {T p d n : Nat} {B : Nat → Nat}
abbrev nmOk (B : Nat → Nat) (T p lo hi : Nat) : Prop := tK B T p = 2 ∧ lo ≤ tV B T p ∧ tV B T p ≤ hi
abbrev tlOk (B : Nat → Nat) (T p c : Nat) : Prop := tK B T p = 2 ∧ tV B T p < c
/-- a number kept, or the fault -/
abbrev nmM (mem : pm_M) (B : Nat → Nat) (T p lo hi n : Nat) : pm_M := if nmOk B T p lo hi then kpM mem n (nI (tV B T p)) else rfM mem (if tK B T p = 2 then 2 else 1) (tS B T p)
abbrev tlM (mem : pm_M) (B : Nat → Nat) (T p c n : Nat) : pm_M := if tlOk B T p c then kpM mem n (nI (tV B T p)) else rfM mem (if tK B T p = 2 then 3 else 1) (tS B T p)
set_option maxRecDepth 100000 in
theorem sp_field5 (h : ctk mem B T p) (hw : mem.1 10004904 0 5 = nI 5) (hc : mem.1 10004904 0 7 = nI n) (hn : n < 3) : Cd yX4_takeField cX4_takeField 1 (some .boolean) 4 84 [pR 10004904 0] mem (some (pI (if nmOk B T p 0 999 then 1 else 0))) (nmM mem B T p 0 999 n) := by
  refine Cl.of (own := RX4) rfl rfl (Nat.le_of_ble_eq_true rfl) rfl ?_; show PR _ _ _ _ _ _ [some _] _ _ _
  refine pr_aload_n 1 dX4_takeField_0 rfl rfl rfl ?_
  refine pr_getI 4 dX4_takeField_1 fX4_43 rfl ?_
  rw [hw]
  refine pr_table 36 dX4_takeField_4 (Or.inr ⟨by decide, by decide, 32, rfl, rfl⟩) ?_
  refine pr_aload_n 37 dX4_takeField_36 rfl rfl rfl ?_
  refine pr_iconst (0) 38 dX4_takeField_37 (by decide) rfl ?_
  refine pr_sipush (999) 41 dX4_takeField_38 (by decide) rfl ?_
  refine pr_invD2 44 dX4_takeField_41 vX4_112 mX4_takeNumber (sp_X4_takeNumber h (lo := 0) (hi := 999) (by decide) hc hn) ⟨Nat.le_of_ble_eq_true rfl, Nat.le_of_ble_eq_true rfl⟩ (Nat.le_of_ble_eq_true rfl) rfl ?_
  refine pr_zreturn dX4_takeField_44 rfl (by split; exact Or.inr rfl; exact Or.inl rfl) ?_
  exact ⟨rfl, rfl⟩
set_option maxRecDepth 100000 in
theorem sp_field6 (h : ctk mem B T p) (hw : mem.1 10004904 0 5 = nI 6) (hc : mem.1 10004904 0 7 = nI n) (hn : n < 3) : Cd yX4_takeField cX4_takeField 1 (some .boolean) 4 84 [pR 10004904 0] mem (some (pI (if nmOk B T p 0 99 then 1 else 0))) (nmM mem B T p 0 99 n) := by
  refine Cl.of (own := RX4) rfl rfl (Nat.le_of_ble_eq_true rfl) rfl ?_; show PR _ _ _ _ _ _ [some _] _ _ _
  refine pr_aload_n 1 dX4_takeField_0 rfl rfl rfl ?_
  refine pr_getI 4 dX4_takeField_1 fX4_43 rfl ?_
  rw [hw]
  refine pr_table 45 dX4_takeField_4 (Or.inr ⟨by decide, by decide, 41, rfl, rfl⟩) ?_
  refine pr_aload_n 46 dX4_takeField_45 rfl rfl rfl ?_
  refine pr_iconst (0) 47 dX4_takeField_46 (by decide) rfl ?_
  refine pr_bipush (99) 49 dX4_takeField_47 (by decide) rfl ?_
  refine pr_invD2 52 dX4_takeField_49 vX4_112 mX4_takeNumber (sp_X4_takeNumber h (lo := 0) (hi := 99) (by decide) hc hn) ⟨Nat.le_of_ble_eq_true rfl, Nat.le_of_ble_eq_true rfl⟩ (Nat.le_of_ble_eq_true rfl) rfl ?_
  refine pr_zreturn dX4_takeField_52 rfl (by split; exact Or.inr rfl; exact Or.inl rfl) ?_
  exact ⟨rfl, rfl⟩
set_option maxRecDepth 100000 in
theorem sp_field7 (h : ctk mem B T p) (hw : mem.1 10004904 0 5 = nI 7) (hc : mem.1 10004904 0 7 = nI n) (hn : n < 3) : Cd yX4_takeField cX4_takeField 1 (some .boolean) 4 84 [pR 10004904 0] mem (some (pI (if nmOk B T p 0 (if n = 0 then 999 else 9999) then 1 else 0))) (nmM mem B T p 0 (if n = 0 then 999 else 9999) n) := by
  refine Cl.of (own := RX4) rfl rfl (Nat.le_of_ble_eq_true rfl) rfl ?_; show PR _ _ _ _ _ _ [some _] _ _ _
  by_cases z : n = 0
  · rw [show (if n = 0 then 999 else 9999) = 999 from if_pos z]
    refine pr_aload_n 1 dX4_takeField_0 rfl rfl rfl ?_
    refine pr_getI 4 dX4_takeField_1 fX4_43 rfl ?_
    rw [hw]
    refine pr_table 53 dX4_takeField_4 (Or.inr ⟨by decide, by decide, 49, rfl, rfl⟩) ?_
    refine pr_aload_n 54 dX4_takeField_53 rfl rfl rfl ?_
    refine pr_iconst (0) 55 dX4_takeField_54 (by decide) rfl ?_
    refine pr_aload_n 56 dX4_takeField_55 rfl rfl rfl ?_
    refine pr_getI 59 dX4_takeField_56 fX4_72 rfl ?_
    rw [hc]
    refine pr_if_ne 68 62 dX4_takeField_59 rfl rfl (fun c_59 => absurd (by rw [z]; rfl) (c_59)) (fun c_59 => ?_)
    refine pr_sipush (999) 65 dX4_takeField_62 (by decide) rfl ?_
    refine pr_goto 71 dX4_takeField_65 rfl ?_
    refine pr_invD2 74 dX4_takeField_71 vX4_112 mX4_takeNumber (sp_X4_takeNumber h (lo := 0) (hi := 999) (by decide) hc hn) ⟨Nat.le_of_ble_eq_true rfl, Nat.le_of_ble_eq_true rfl⟩ (Nat.le_of_ble_eq_true rfl) rfl ?_
    refine pr_zreturn dX4_takeField_74 rfl (by split; exact Or.inr rfl; exact Or.inl rfl) ?_
    exact ⟨rfl, rfl⟩
  · rw [show (if n = 0 then 999 else 9999) = 9999 from if_neg z]
    refine pr_aload_n 1 dX4_takeField_0 rfl rfl rfl ?_
    refine pr_getI 4 dX4_takeField_1 fX4_43 rfl ?_
    rw [hw]
    refine pr_table 53 dX4_takeField_4 (Or.inr ⟨by decide, by decide, 49, rfl, rfl⟩) ?_
    refine pr_aload_n 54 dX4_takeField_53 rfl rfl rfl ?_
    refine pr_iconst (0) 55 dX4_takeField_54 (by decide) rfl ?_
    refine pr_aload_n 56 dX4_takeField_55 rfl rfl rfl ?_
    refine pr_getI 59 dX4_takeField_56 fX4_72 rfl ?_
    rw [hc]
    refine pr_if_ne 68 62 dX4_takeField_59 rfl rfl (fun c_59 => ?_) (fun c_59 => absurd (c_59) (nI_ne0 (by omega) (by omega)))
    refine pr_sipush (9999) 71 dX4_takeField_68 (by decide) rfl ?_
    refine pr_invD2 74 dX4_takeField_71 vX4_112 mX4_takeNumber (sp_X4_takeNumber h (lo := 0) (hi := 9999) (by decide) hc hn) ⟨Nat.le_of_ble_eq_true rfl, Nat.le_of_ble_eq_true rfl⟩ (Nat.le_of_ble_eq_true rfl) rfl ?_
    refine pr_zreturn dX4_takeField_74 rfl (by split; exact Or.inr rfl; exact Or.inl rfl) ?_
    exact ⟨rfl, rfl⟩
end FLD
