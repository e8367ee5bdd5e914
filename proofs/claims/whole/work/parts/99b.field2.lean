/-! the class: the next number of a load's, of a trip's line -/
section FL2
variable {mem : pm_M} {T p d n c f1 : Nat} {B : Nat → Nat}
theorem ctk.kp {v : Int32} (h : ctk mem B T p) : ctk (kpM mem n v) B T p := by
  unfold ctk
  rw [pm_gIn (by simp), pm_gIn (by simp), pm_gIn (by simp), pm_gIn (by simp), pm_gIn (by simp), pm_gIn (by simp), pm_gIn (by simp), pm_gIn (by simp)]
  exact h
set_option maxRecDepth 100000 in
theorem sp_ldField0 (h : ctk mem B T p) (hc : mem.1 10004904 0 7 = nI 0) : Cd yX4_takeFieldOfLoad cX4_takeFieldOfLoad 2 (some .boolean) 3 63 [pR 10004904 0] mem (some (pI (if nmOk B T p 1 99 then 1 else 0))) (nmM mem B T p 1 99 0) := by
  refine Cl.of (own := RX4) rfl rfl (Nat.le_of_ble_eq_true rfl) rfl ?_; show PR _ _ _ _ _ _ [some _, none] _ _ _
  refine pr_aload_n 1 dX4_takeFieldOfLoad_0 rfl rfl rfl ?_
  refine pr_getI 4 dX4_takeFieldOfLoad_1 fX4_72 rfl ?_
  rw [hc]
  refine pr_if_ne 15 7 dX4_takeFieldOfLoad_4 rfl rfl (fun c_4 => absurd (rfl) (c_4)) (fun c_4 => ?_)
  refine pr_aload_n 8 dX4_takeFieldOfLoad_7 rfl rfl rfl ?_
  refine pr_iconst (1) 9 dX4_takeFieldOfLoad_8 (by decide) rfl ?_
  refine pr_bipush (99) 11 dX4_takeFieldOfLoad_9 (by decide) rfl ?_
  refine pr_invD2 14 dX4_takeFieldOfLoad_11 vX4_112 mX4_takeNumber (sp_X4_takeNumber h (lo := 1) (hi := 99) (by decide) hc (by omega)) ⟨Nat.le_of_ble_eq_true rfl, Nat.le_of_ble_eq_true rfl⟩ (Nat.le_of_ble_eq_true rfl) rfl ?_
  refine pr_zreturn dX4_takeFieldOfLoad_14 rfl (by split; exact Or.inr rfl; exact Or.inl rfl) ?_
  exact ⟨rfl, rfl⟩
set_option maxRecDepth 100000 in
theorem sp_ldField1 (h : ctk mem B T p) (hd : mem.2.2 10004904 0 1 = some d) (hp : mem.1 10000900 d 1 = nI c) (hcc : c < 2000) (hc : mem.1 10004904 0 7 = nI 1) : Cd yX4_takeFieldOfLoad cX4_takeFieldOfLoad 2 (some .boolean) 3 63 [pR 10004904 0] mem (some (pI (if tlOk B T p c then 1 else 0))) (tlM mem B T p c 1) := by
  have h1 := sp_X4_takeNumberTold h hcc hc (by omega)
  refine Cl.of (own := RX4) rfl rfl (Nat.le_of_ble_eq_true rfl) rfl ?_; show PR _ _ _ _ _ _ [some _, none] _ _ _
  by_cases o : tlOk B T p c
  · rw [if_pos o, tlM, if_pos o]
    rw [if_pos o, if_pos o] at h1
    refine pr_aload_n 1 dX4_takeFieldOfLoad_0 rfl rfl rfl ?_
    refine pr_getI 4 dX4_takeFieldOfLoad_1 fX4_72 rfl ?_
    rw [hc]
    refine pr_if_ne 15 7 dX4_takeFieldOfLoad_4 rfl rfl (fun c_4 => ?_) (fun c_4 => absurd (c_4) (by decide))
    refine pr_aload_n 16 dX4_takeFieldOfLoad_15 rfl rfl rfl ?_
    refine pr_aload_n 17 dX4_takeFieldOfLoad_16 rfl rfl rfl ?_
    refine pr_getP d 20 dX4_takeFieldOfLoad_17 fX4_24 hd rfl ?_
    refine pr_getI 23 dX4_takeFieldOfLoad_20 fX4_91 rfl ?_
    rw [hp]
    refine pr_invD1 26 dX4_takeFieldOfLoad_23 vX4_122 mX4_takeNumberTold (h1) ⟨Nat.le_of_ble_eq_true rfl, Nat.le_of_ble_eq_true rfl⟩ (Nat.le_of_ble_eq_true rfl) rfl ?_
    refine pr_if_ne 31 29 dX4_takeFieldOfLoad_26 rfl rfl (fun c_26 => ?_) (fun c_26 => absurd (c_26) (by decide))
    refine pr_aload_n 32 dX4_takeFieldOfLoad_31 rfl rfl rfl ?_
    refine pr_getI 35 dX4_takeFieldOfLoad_32 fX4_72 rfl ?_
    rw [pm_gIe]
    refine pr_iconst (3) 36 dX4_takeFieldOfLoad_35 (by decide) rfl ?_
    refine pr_icmp_ne 58 39 dX4_takeFieldOfLoad_36 rfl rfl (fun c_36 => ?_) (fun c_36 => absurd (c_36) (by decide))
    refine pr_iconst (0) 59 dX4_takeFieldOfLoad_58 (by decide) rfl ?_
    refine pr_istore_n 60 dX4_takeFieldOfLoad_59 rfl (pm_st_1 rfl rfl) rfl ?_
    refine pr_iload_n 61 dX4_takeFieldOfLoad_60 rfl rfl rfl ?_
    refine pr_if_eq 72 64 dX4_takeFieldOfLoad_61 rfl rfl (fun c_61 => ?_) (fun c_61 => absurd (rfl) (c_61))
    refine pr_iconst (1) 73 dX4_takeFieldOfLoad_72 (by decide) rfl ?_
    refine pr_goto 77 dX4_takeFieldOfLoad_73 rfl ?_
    refine pr_zreturn dX4_takeFieldOfLoad_77 rfl (by first | exact Or.inl rfl | exact Or.inr rfl) ?_
    exact ⟨rfl, rfl⟩
  · rw [if_neg o, tlM, if_neg o]
    rw [if_neg o, if_neg o] at h1
    refine pr_aload_n 1 dX4_takeFieldOfLoad_0 rfl rfl rfl ?_
    refine pr_getI 4 dX4_takeFieldOfLoad_1 fX4_72 rfl ?_
    rw [hc]
    refine pr_if_ne 15 7 dX4_takeFieldOfLoad_4 rfl rfl (fun c_4 => ?_) (fun c_4 => absurd (c_4) (by decide))
    refine pr_aload_n 16 dX4_takeFieldOfLoad_15 rfl rfl rfl ?_
    refine pr_aload_n 17 dX4_takeFieldOfLoad_16 rfl rfl rfl ?_
    refine pr_getP d 20 dX4_takeFieldOfLoad_17 fX4_24 hd rfl ?_
    refine pr_getI 23 dX4_takeFieldOfLoad_20 fX4_91 rfl ?_
    rw [hp]
    refine pr_invD1 26 dX4_takeFieldOfLoad_23 vX4_122 mX4_takeNumberTold (h1) ⟨Nat.le_of_ble_eq_true rfl, Nat.le_of_ble_eq_true rfl⟩ (Nat.le_of_ble_eq_true rfl) rfl ?_
    refine pr_if_ne 31 29 dX4_takeFieldOfLoad_26 rfl rfl (fun c_26 => absurd (rfl) (c_26)) (fun c_26 => ?_)
    refine pr_iconst (0) 30 dX4_takeFieldOfLoad_29 (by decide) rfl ?_
    refine pr_zreturn dX4_takeFieldOfLoad_30 rfl (by first | exact Or.inl rfl | exact Or.inr rfl) ?_
    exact ⟨rfl, rfl⟩
set_option maxRecDepth 100000 in
theorem sp_ldField2 (h : ctk mem B T p) (hd : mem.2.2 10004904 0 1 = some d) (hp : mem.1 10000900 d 1 = nI c) (hcc : c < 2000) (hc : mem.1 10004904 0 7 = nI 2) (h1f : mem.1 20003166 0 1 = nI f1) (hf : f1 < 10000) : Cd yX4_takeFieldOfLoad cX4_takeFieldOfLoad 2 (some .boolean) 3 63 [pR 10004904 0] mem (some (pI (if tlOk B T p c ∧ ¬ tV B T p = f1 then 1 else 0))) (if tlOk B T p c ∧ tV B T p = f1 then rfM (kpM mem 2 (nI (tV B T p))) 3 (tS B T p) else tlM mem B T p c 2) := by
  have h1 := sp_X4_takeNumberTold h hcc hc (by omega)
  refine Cl.of (own := RX4) rfl rfl (Nat.le_of_ble_eq_true rfl) rfl ?_; show PR _ _ _ _ _ _ [some _, none] _ _ _
  by_cases o : tlOk B T p c
  · have hv := tV_lt o.1
    rw [if_pos o, if_pos o] at h1
    have hk : ctk (kpM mem 2 (nI (tV B T p))) B T p := h.kp
    by_cases e : tV B T p = f1
    · rw [if_neg (fun z => z.2 e), if_pos ⟨o, e⟩]
      refine pr_aload_n 1 dX4_takeFieldOfLoad_0 rfl rfl rfl ?_
      refine pr_getI 4 dX4_takeFieldOfLoad_1 fX4_72 rfl ?_
      rw [hc]
      refine pr_if_ne 15 7 dX4_takeFieldOfLoad_4 rfl rfl (fun c_4 => ?_) (fun c_4 => absurd (c_4) (by decide))
      refine pr_aload_n 16 dX4_takeFieldOfLoad_15 rfl rfl rfl ?_
      refine pr_aload_n 17 dX4_takeFieldOfLoad_16 rfl rfl rfl ?_
      refine pr_getP d 20 dX4_takeFieldOfLoad_17 fX4_24 hd rfl ?_
      refine pr_getI 23 dX4_takeFieldOfLoad_20 fX4_91 rfl ?_
      rw [hp]
      refine pr_invD1 26 dX4_takeFieldOfLoad_23 vX4_122 mX4_takeNumberTold (h1) ⟨Nat.le_of_ble_eq_true rfl, Nat.le_of_ble_eq_true rfl⟩ (Nat.le_of_ble_eq_true rfl) rfl ?_
      refine pr_if_ne 31 29 dX4_takeFieldOfLoad_26 rfl rfl (fun c_26 => ?_) (fun c_26 => absurd (c_26) (by decide))
      refine pr_aload_n 32 dX4_takeFieldOfLoad_31 rfl rfl rfl ?_
      refine pr_getI 35 dX4_takeFieldOfLoad_32 fX4_72 rfl ?_
      rw [pm_gIe]
      refine pr_iconst (3) 36 dX4_takeFieldOfLoad_35 (by decide) rfl ?_
      refine pr_icmp_ne 58 39 dX4_takeFieldOfLoad_36 rfl rfl (fun c_36 => absurd (rfl) (c_36)) (fun c_36 => ?_)
      refine pr_aload_n 40 dX4_takeFieldOfLoad_39 rfl rfl rfl ?_
      refine pr_getR0 43 dX4_takeFieldOfLoad_40 fX4_9 rfl ?_
      refine pr_iconst (1) 44 dX4_takeFieldOfLoad_43 (by decide) rfl ?_
      refine pr_iaload 1 45 dX4_takeFieldOfLoad_44 rfl rfl rfl (by omega) rfl ?_
      rw [pm_gIn (by simp), pm_gIn (by simp), h1f]
      refine pr_aload_n 46 dX4_takeFieldOfLoad_45 rfl rfl rfl ?_
      refine pr_getR0 49 dX4_takeFieldOfLoad_46 fX4_9 rfl ?_
      refine pr_iconst (2) 50 dX4_takeFieldOfLoad_49 (by decide) rfl ?_
      refine pr_iaload 2 51 dX4_takeFieldOfLoad_50 rfl rfl rfl (by omega) rfl ?_
      rw [pm_gIn (by simp), pm_gIe]
      refine pr_icmp_ne 58 54 dX4_takeFieldOfLoad_51 rfl rfl (fun c_51 => absurd (by rw [e]) (c_51)) (fun c_51 => ?_)
      refine pr_iconst (1) 55 dX4_takeFieldOfLoad_54 (by decide) rfl ?_
      refine pr_goto 59 dX4_takeFieldOfLoad_55 rfl ?_
      refine pr_istore_n 60 dX4_takeFieldOfLoad_59 rfl (pm_st_1 rfl rfl) rfl ?_
      refine pr_iload_n 61 dX4_takeFieldOfLoad_60 rfl rfl rfl ?_
      refine pr_if_eq 72 64 dX4_takeFieldOfLoad_61 rfl rfl (fun c_61 => absurd (c_61) (by decide)) (fun c_61 => ?_)
      refine pr_aload_n 65 dX4_takeFieldOfLoad_64 rfl rfl rfl ?_
      refine pr_iconst (3) 66 dX4_takeFieldOfLoad_65 (by decide) rfl ?_
      refine pr_invD1 69 dX4_takeFieldOfLoad_66 vX4_62 mX4_refuse (sp_X4_refuse hk 3) ⟨Nat.le_of_ble_eq_true rfl, Nat.le_of_ble_eq_true rfl⟩ (Nat.le_of_ble_eq_true rfl) rfl ?_
      refine pr_if_eq 76 72 dX4_takeFieldOfLoad_69 rfl rfl (fun c_69 => ?_) (fun c_69 => absurd (rfl) (c_69))
      refine pr_iconst (0) 77 dX4_takeFieldOfLoad_76 (by decide) rfl ?_
      refine pr_zreturn dX4_takeFieldOfLoad_77 rfl (by first | exact Or.inl rfl | exact Or.inr rfl) ?_
      exact ⟨rfl, rfl⟩
    · rw [if_pos ⟨o, e⟩, if_neg (fun z => e z.2), tlM, if_pos o]
      refine pr_aload_n 1 dX4_takeFieldOfLoad_0 rfl rfl rfl ?_
      refine pr_getI 4 dX4_takeFieldOfLoad_1 fX4_72 rfl ?_
      rw [hc]
      refine pr_if_ne 15 7 dX4_takeFieldOfLoad_4 rfl rfl (fun c_4 => ?_) (fun c_4 => absurd (c_4) (by decide))
      refine pr_aload_n 16 dX4_takeFieldOfLoad_15 rfl rfl rfl ?_
      refine pr_aload_n 17 dX4_takeFieldOfLoad_16 rfl rfl rfl ?_
      refine pr_getP d 20 dX4_takeFieldOfLoad_17 fX4_24 hd rfl ?_
      refine pr_getI 23 dX4_takeFieldOfLoad_20 fX4_91 rfl ?_
      rw [hp]
      refine pr_invD1 26 dX4_takeFieldOfLoad_23 vX4_122 mX4_takeNumberTold (h1) ⟨Nat.le_of_ble_eq_true rfl, Nat.le_of_ble_eq_true rfl⟩ (Nat.le_of_ble_eq_true rfl) rfl ?_
      refine pr_if_ne 31 29 dX4_takeFieldOfLoad_26 rfl rfl (fun c_26 => ?_) (fun c_26 => absurd (c_26) (by decide))
      refine pr_aload_n 32 dX4_takeFieldOfLoad_31 rfl rfl rfl ?_
      refine pr_getI 35 dX4_takeFieldOfLoad_32 fX4_72 rfl ?_
      rw [pm_gIe]
      refine pr_iconst (3) 36 dX4_takeFieldOfLoad_35 (by decide) rfl ?_
      refine pr_icmp_ne 58 39 dX4_takeFieldOfLoad_36 rfl rfl (fun c_36 => absurd (rfl) (c_36)) (fun c_36 => ?_)
      refine pr_aload_n 40 dX4_takeFieldOfLoad_39 rfl rfl rfl ?_
      refine pr_getR0 43 dX4_takeFieldOfLoad_40 fX4_9 rfl ?_
      refine pr_iconst (1) 44 dX4_takeFieldOfLoad_43 (by decide) rfl ?_
      refine pr_iaload 1 45 dX4_takeFieldOfLoad_44 rfl rfl rfl (by omega) rfl ?_
      rw [pm_gIn (by simp), pm_gIn (by simp), h1f]
      refine pr_aload_n 46 dX4_takeFieldOfLoad_45 rfl rfl rfl ?_
      refine pr_getR0 49 dX4_takeFieldOfLoad_46 fX4_9 rfl ?_
      refine pr_iconst (2) 50 dX4_takeFieldOfLoad_49 (by decide) rfl ?_
      refine pr_iaload 2 51 dX4_takeFieldOfLoad_50 rfl rfl rfl (by omega) rfl ?_
      rw [pm_gIn (by simp), pm_gIe]
      refine pr_icmp_ne 58 54 dX4_takeFieldOfLoad_51 rfl rfl (fun c_51 => ?_) (fun c_51 => absurd (c_51) (fun z => e ((nI_eq (by omega) (by omega)).mp z).symm))
      refine pr_iconst (0) 59 dX4_takeFieldOfLoad_58 (by decide) rfl ?_
      refine pr_istore_n 60 dX4_takeFieldOfLoad_59 rfl (pm_st_1 rfl rfl) rfl ?_
      refine pr_iload_n 61 dX4_takeFieldOfLoad_60 rfl rfl rfl ?_
      refine pr_if_eq 72 64 dX4_takeFieldOfLoad_61 rfl rfl (fun c_61 => ?_) (fun c_61 => absurd (rfl) (c_61))
      refine pr_iconst (1) 73 dX4_takeFieldOfLoad_72 (by decide) rfl ?_
      refine pr_goto 77 dX4_takeFieldOfLoad_73 rfl ?_
      refine pr_zreturn dX4_takeFieldOfLoad_77 rfl (by first | exact Or.inl rfl | exact Or.inr rfl) ?_
      exact ⟨rfl, rfl⟩
  · rw [if_neg (fun z => o z.1), if_neg (fun z => o z.1), tlM, if_neg o]
    rw [if_neg o, if_neg o] at h1
    refine pr_aload_n 1 dX4_takeFieldOfLoad_0 rfl rfl rfl ?_
    refine pr_getI 4 dX4_takeFieldOfLoad_1 fX4_72 rfl ?_
    rw [hc]
    refine pr_if_ne 15 7 dX4_takeFieldOfLoad_4 rfl rfl (fun c_4 => ?_) (fun c_4 => absurd (c_4) (by decide))
    refine pr_aload_n 16 dX4_takeFieldOfLoad_15 rfl rfl rfl ?_
    refine pr_aload_n 17 dX4_takeFieldOfLoad_16 rfl rfl rfl ?_
    refine pr_getP d 20 dX4_takeFieldOfLoad_17 fX4_24 hd rfl ?_
    refine pr_getI 23 dX4_takeFieldOfLoad_20 fX4_91 rfl ?_
    rw [hp]
    refine pr_invD1 26 dX4_takeFieldOfLoad_23 vX4_122 mX4_takeNumberTold (h1) ⟨Nat.le_of_ble_eq_true rfl, Nat.le_of_ble_eq_true rfl⟩ (Nat.le_of_ble_eq_true rfl) rfl ?_
    refine pr_if_ne 31 29 dX4_takeFieldOfLoad_26 rfl rfl (fun c_26 => absurd (rfl) (c_26)) (fun c_26 => ?_)
    refine pr_iconst (0) 30 dX4_takeFieldOfLoad_29 (by decide) rfl ?_
    refine pr_zreturn dX4_takeFieldOfLoad_30 rfl (by first | exact Or.inl rfl | exact Or.inr rfl) ?_
    exact ⟨rfl, rfl⟩
end FL2
