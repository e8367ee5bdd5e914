/-! the class: a step's number -/
section STN
variable {mem : pm_M} {T p d n c m on was : Nat} {B : Nat → Nat}
/-- a step is added -/
abbrev adM (mem : pm_M) (d n m : Nat) (k v : Int32) : pm_M := pm_uI (pm_uI (pm_uI (pm_uI (pm_uI mem 20200017 d m k) 20200018 d m v) 10000900 d 5 (nI (m + 1))) 20016016 d n (nI (m + 1))) 10004904 0 9 (-1)
set_option maxRecDepth 100000 in
theorem sp_stepTo (h : ctk mem B T p) (hd : mem.2.2 10004904 0 1 = some d) (hw : mem.1 10004904 0 9 = nI 11) (hp : mem.1 10000900 d 1 = nI c) (hcc : c < 2000) (ht : mem.1 10000900 d 4 = nI (n + 1)) (hn : n < 16) (hs : mem.1 10000900 d 5 = nI m) (hm : m < 200) : Cd yX4_takeNumberOfStep cX4_takeNumberOfStep 2 (some .boolean) 2 42 [pR 10004904 0] mem (some (pI (if tlOk B T p c then 1 else 0))) (if tlOk B T p c then adM mem d n m (nI 11) (nI (tV B T p)) else rfM mem (if tK B T p = 2 then 3 else 1) (tS B T p)) := by
  have h1 := sp_X4_isNumberTold h hcc
  refine Cl.of (own := RX4) rfl rfl (Nat.le_of_ble_eq_true rfl) rfl ?_; show PR _ _ _ _ _ _ [some _, none] _ _ _
  by_cases o : tlOk B T p c
  · rw [if_pos o, if_pos o] at h1 ⊢
    refine pr_aload_n 1 dX4_takeNumberOfStep_0 rfl rfl rfl ?_
    refine pr_aload_n 2 dX4_takeNumberOfStep_1 rfl rfl rfl ?_
    refine pr_getI 5 dX4_takeNumberOfStep_2 fX4_103 rfl ?_
    rw [hw]
    refine pr_bipush (11) 7 dX4_takeNumberOfStep_5 (by decide) rfl ?_
    refine pr_icmp_ne 20 10 dX4_takeNumberOfStep_7 rfl rfl (fun c_7 => absurd (rfl) (c_7)) (fun c_7 => ?_)
    refine pr_aload_n 11 dX4_takeNumberOfStep_10 rfl rfl rfl ?_
    refine pr_getP d 14 dX4_takeNumberOfStep_11 fX4_24 hd rfl ?_
    refine pr_getI 17 dX4_takeNumberOfStep_14 fX4_91 rfl ?_
    rw [hp]
    refine pr_goto 27 dX4_takeNumberOfStep_17 rfl ?_
    refine pr_invD1 30 dX4_takeNumberOfStep_27 vX4_135 mX4_isNumberTold (h1) ⟨Nat.le_of_ble_eq_true rfl, Nat.le_of_ble_eq_true rfl⟩ (Nat.le_of_ble_eq_true rfl) rfl ?_
    refine pr_if_ne 35 33 dX4_takeNumberOfStep_30 rfl rfl (fun c_30 => ?_) (fun c_30 => absurd (c_30) (by decide))
    refine pr_aload_n 36 dX4_takeNumberOfStep_35 rfl rfl rfl ?_
    refine pr_getR0 39 dX4_takeNumberOfStep_36 fX4_20 rfl ?_
    refine pr_getI 42 dX4_takeNumberOfStep_39 fX4_132 rfl ?_
    rw [h.2.2.1 o.1]
    refine pr_istore_n 43 dX4_takeNumberOfStep_42 rfl (pm_st_1 rfl rfl) rfl ?_
    refine pr_aload_n 44 dX4_takeNumberOfStep_43 rfl rfl rfl ?_
    refine pr_getI 47 dX4_takeNumberOfStep_44 fX4_103 rfl ?_
    rw [hw]
    refine pr_bipush (12) 49 dX4_takeNumberOfStep_47 (by decide) rfl ?_
    refine pr_icmp_ne 96 52 dX4_takeNumberOfStep_49 rfl rfl (fun c_49 => ?_) (fun c_49 => absurd (c_49) (by decide))
    refine pr_aload_n 97 dX4_takeNumberOfStep_96 rfl rfl rfl ?_
    refine pr_getI 100 dX4_takeNumberOfStep_97 fX4_103 rfl ?_
    rw [hw]
    refine pr_bipush (13) 102 dX4_takeNumberOfStep_100 (by decide) rfl ?_
    refine pr_icmp_ne 136 105 dX4_takeNumberOfStep_102 rfl rfl (fun c_102 => ?_) (fun c_102 => absurd (c_102) (by decide))
    refine pr_aload_n 137 dX4_takeNumberOfStep_136 rfl rfl rfl ?_
    refine pr_getP d 140 dX4_takeNumberOfStep_137 fX4_24 hd rfl ?_
    refine pr_aload_n 141 dX4_takeNumberOfStep_140 rfl rfl rfl ?_
    refine pr_getI 144 dX4_takeNumberOfStep_141 fX4_103 rfl ?_
    rw [hw]
    refine pr_iload_n 145 dX4_takeNumberOfStep_144 rfl rfl rfl ?_
    refine pr_inv02 148 dX4_takeNumberOfStep_145 vX4_141 mX0_addStep (sp_X0_addStep ht hn hs hm _ _) ⟨Nat.le_of_ble_eq_true rfl, Nat.le_of_ble_eq_true rfl⟩ (Nat.le_of_ble_eq_true rfl) rfl ?_
    refine pr_aload_n 149 dX4_takeNumberOfStep_148 rfl rfl rfl ?_
    refine pr_iconst (-1) 150 dX4_takeNumberOfStep_149 (by decide) rfl ?_
    refine pr_putI 153 dX4_takeNumberOfStep_150 fX4_103 rfl ?_
    refine pr_iconst (1) 154 dX4_takeNumberOfStep_153 (by decide) rfl ?_
    refine pr_zreturn dX4_takeNumberOfStep_154 rfl (by first | exact Or.inl rfl | exact Or.inr rfl) ?_
    exact ⟨rfl, rfl⟩
  · rw [if_neg o, if_neg o] at h1 ⊢
    refine pr_aload_n 1 dX4_takeNumberOfStep_0 rfl rfl rfl ?_
    refine pr_aload_n 2 dX4_takeNumberOfStep_1 rfl rfl rfl ?_
    refine pr_getI 5 dX4_takeNumberOfStep_2 fX4_103 rfl ?_
    rw [hw]
    refine pr_bipush (11) 7 dX4_takeNumberOfStep_5 (by decide) rfl ?_
    refine pr_icmp_ne 20 10 dX4_takeNumberOfStep_7 rfl rfl (fun c_7 => absurd (rfl) (c_7)) (fun c_7 => ?_)
    refine pr_aload_n 11 dX4_takeNumberOfStep_10 rfl rfl rfl ?_
    refine pr_getP d 14 dX4_takeNumberOfStep_11 fX4_24 hd rfl ?_
    refine pr_getI 17 dX4_takeNumberOfStep_14 fX4_91 rfl ?_
    rw [hp]
    refine pr_goto 27 dX4_takeNumberOfStep_17 rfl ?_
    refine pr_invD1 30 dX4_takeNumberOfStep_27 vX4_135 mX4_isNumberTold (h1) ⟨Nat.le_of_ble_eq_true rfl, Nat.le_of_ble_eq_true rfl⟩ (Nat.le_of_ble_eq_true rfl) rfl ?_
    refine pr_if_ne 35 33 dX4_takeNumberOfStep_30 rfl rfl (fun c_30 => absurd (rfl) (c_30)) (fun c_30 => ?_)
    refine pr_iconst (0) 34 dX4_takeNumberOfStep_33 (by decide) rfl ?_
    refine pr_zreturn dX4_takeNumberOfStep_34 rfl (by first | exact Or.inl rfl | exact Or.inr rfl) ?_
    exact ⟨rfl, rfl⟩
end STN
