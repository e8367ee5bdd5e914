/-! the class: the numbers of a trip's line -/
section FL3
variable {mem : pm_M} {T p d n c f0 f1 m : Nat} {B : Nat → Nat}
set_option maxRecDepth 100000 in
theorem sp_tpField0 (h : ctk mem B T p) (hd : mem.2.2 10004904 0 1 = some d) (hp : mem.1 10000900 d 2 = nI c) (hcc : c < 2000) (hc : mem.1 10004904 0 7 = nI 0) : Cd yX4_takeFieldOfTrip cX4_takeFieldOfTrip 1 (some .boolean) 3 63 [pR 10004904 0] mem (some (pI (if tlOk B T p c then 1 else 0))) (tlM mem B T p c 0) := by
  have h1 := sp_X4_takeNumberTold h hcc hc (by omega)
  refine Cl.of (own := RX4) rfl rfl (Nat.le_of_ble_eq_true rfl) rfl ?_; show PR _ _ _ _ _ _ [some _] _ _ _
  refine pr_aload_n 1 dX4_takeFieldOfTrip_0 rfl rfl rfl ?_
  refine pr_getI 4 dX4_takeFieldOfTrip_1 fX4_72 rfl ?_
  rw [hc]
  refine pr_if_ne 19 7 dX4_takeFieldOfTrip_4 rfl rfl (fun c_4 => absurd (rfl) (c_4)) (fun c_4 => ?_)
  refine pr_aload_n 8 dX4_takeFieldOfTrip_7 rfl rfl rfl ?_
  refine pr_aload_n 9 dX4_takeFieldOfTrip_8 rfl rfl rfl ?_
  refine pr_getP d 12 dX4_takeFieldOfTrip_9 fX4_24 hd rfl ?_
  refine pr_getI 15 dX4_takeFieldOfTrip_12 fX4_94 rfl ?_
  rw [hp]
  refine pr_invD1 18 dX4_takeFieldOfTrip_15 vX4_122 mX4_takeNumberTold (h1) ⟨Nat.le_of_ble_eq_true rfl, Nat.le_of_ble_eq_true rfl⟩ (Nat.le_of_ble_eq_true rfl) rfl ?_
  refine pr_zreturn dX4_takeFieldOfTrip_18 rfl (by split; exact Or.inr rfl; exact Or.inl rfl) ?_
  exact ⟨rfl, rfl⟩
set_option maxRecDepth 100000 in
theorem sp_tpField1 (h : ctk mem B T p) (hc : mem.1 10004904 0 7 = nI 1) : Cd yX4_takeFieldOfTrip cX4_takeFieldOfTrip 1 (some .boolean) 3 63 [pR 10004904 0] mem (some (pI (if tK B T p = 10 ∨ nmOk B T p 0 9999 then 1 else 0))) (if tK B T p = 10 then kpM mem 1 (-1) else nmM mem B T p 0 9999 1) := by
  have hkb := tK_lt B T p
  refine Cl.of (own := RX4) rfl rfl (Nat.le_of_ble_eq_true rfl) rfl ?_; show PR _ _ _ _ _ _ [some _] _ _ _
  by_cases k : tK B T p = 10
  · rw [if_pos (Or.inl k), if_pos k]
    refine pr_aload_n 1 dX4_takeFieldOfTrip_0 rfl rfl rfl ?_
    refine pr_getI 4 dX4_takeFieldOfTrip_1 fX4_72 rfl ?_
    rw [hc]
    refine pr_if_ne 19 7 dX4_takeFieldOfTrip_4 rfl rfl (fun c_4 => ?_) (fun c_4 => absurd (c_4) (by decide))
    refine pr_aload_n 20 dX4_takeFieldOfTrip_19 rfl rfl rfl ?_
    refine pr_getI 23 dX4_takeFieldOfTrip_20 fX4_72 rfl ?_
    rw [hc]
    refine pr_iconst (1) 24 dX4_takeFieldOfTrip_23 (by decide) rfl ?_
    refine pr_icmp_ne 56 27 dX4_takeFieldOfTrip_24 rfl rfl (fun c_24 => absurd (rfl) (c_24)) (fun c_24 => ?_)
    refine pr_aload_n 28 dX4_takeFieldOfTrip_27 rfl rfl rfl ?_
    refine pr_getR0 31 dX4_takeFieldOfTrip_28 fX4_20 rfl ?_
    refine pr_getI 34 dX4_takeFieldOfTrip_31 fX4_52 rfl ?_
    rw [h.1, k]
    refine pr_bipush (10) 36 dX4_takeFieldOfTrip_34 (by decide) rfl ?_
    refine pr_icmp_ne 47 39 dX4_takeFieldOfTrip_36 rfl rfl (fun c_36 => absurd (rfl) (c_36)) (fun c_36 => ?_)
    refine pr_aload_n 40 dX4_takeFieldOfTrip_39 rfl rfl rfl ?_
    refine pr_iconst (-1) 41 dX4_takeFieldOfTrip_40 (by decide) rfl ?_
    refine pr_invD1 44 dX4_takeFieldOfTrip_41 vX4_125 mX4_keepField (sp_X4_keepField hc (by omega) _) ⟨Nat.le_of_ble_eq_true rfl, Nat.le_of_ble_eq_true rfl⟩ (Nat.le_of_ble_eq_true rfl) rfl ?_
    refine pr_goto 55 dX4_takeFieldOfTrip_44 rfl ?_
    refine pr_zreturn dX4_takeFieldOfTrip_55 rfl (by first | exact Or.inl rfl | exact Or.inr rfl) ?_
    exact ⟨rfl, rfl⟩
  · have e : (if tK B T p = 10 ∨ nmOk B T p 0 9999 then (1 : Int32) else 0) = if nmOk B T p 0 9999 then 1 else 0 := by
      by_cases z : nmOk B T p 0 9999
      · rw [if_pos (Or.inr z), if_pos z]
      · rw [if_neg (fun y => y.elim k z), if_neg z]
    rw [e, if_neg k]
    refine pr_aload_n 1 dX4_takeFieldOfTrip_0 rfl rfl rfl ?_
    refine pr_getI 4 dX4_takeFieldOfTrip_1 fX4_72 rfl ?_
    rw [hc]
    refine pr_if_ne 19 7 dX4_takeFieldOfTrip_4 rfl rfl (fun c_4 => ?_) (fun c_4 => absurd (c_4) (by decide))
    refine pr_aload_n 20 dX4_takeFieldOfTrip_19 rfl rfl rfl ?_
    refine pr_getI 23 dX4_takeFieldOfTrip_20 fX4_72 rfl ?_
    rw [hc]
    refine pr_iconst (1) 24 dX4_takeFieldOfTrip_23 (by decide) rfl ?_
    refine pr_icmp_ne 56 27 dX4_takeFieldOfTrip_24 rfl rfl (fun c_24 => absurd (rfl) (c_24)) (fun c_24 => ?_)
    refine pr_aload_n 28 dX4_takeFieldOfTrip_27 rfl rfl rfl ?_
    refine pr_getR0 31 dX4_takeFieldOfTrip_28 fX4_20 rfl ?_
    refine pr_getI 34 dX4_takeFieldOfTrip_31 fX4_52 rfl ?_
    rw [h.1]
    refine pr_bipush (10) 36 dX4_takeFieldOfTrip_34 (by decide) rfl ?_
    refine pr_icmp_ne 47 39 dX4_takeFieldOfTrip_36 rfl rfl (fun c_36 => ?_) (fun c_36 => absurd (c_36) (fun z => k ((nI_eq (b := 10) (by omega) (by omega)).mp z)))
    refine pr_aload_n 48 dX4_takeFieldOfTrip_47 rfl rfl rfl ?_
    refine pr_iconst (0) 49 dX4_takeFieldOfTrip_48 (by decide) rfl ?_
    refine pr_sipush (9999) 52 dX4_takeFieldOfTrip_49 (by decide) rfl ?_
    refine pr_invD2 55 dX4_takeFieldOfTrip_52 vX4_112 mX4_takeNumber (sp_X4_takeNumber h (lo := 0) (hi := 9999) (by decide) hc (by omega)) ⟨Nat.le_of_ble_eq_true rfl, Nat.le_of_ble_eq_true rfl⟩ (Nat.le_of_ble_eq_true rfl) rfl ?_
    refine pr_zreturn dX4_takeFieldOfTrip_55 rfl (by split; exact Or.inr rfl; exact Or.inl rfl) ?_
    exact ⟨rfl, rfl⟩
set_option maxRecDepth 100000 in
theorem sp_tpField2 (h : ctk mem B T p) (hd : mem.2.2 10004904 0 1 = some d) (hp : mem.1 10000900 d 1 = nI c) (hcc : c < 2000) (hc : mem.1 10004904 0 7 = nI 2) (ht : mem.1 10000900 d 4 = nI n) (hn : n < 16) (hs : mem.1 10000900 d 5 = nI m) : Cd yX4_takeFieldOfTrip cX4_takeFieldOfTrip 1 (some .boolean) 3 63 [pR 10004904 0] mem (some (pI (if tlOk B T p c then 1 else 0))) (if tlOk B T p c then pm_uI (pm_uI (pm_uI (pm_uI (pm_uI (kpM mem 2 (nI (tV B T p))) 20016013 d n (mem.1 20003166 0 0)) 20016014 d n (mem.1 20003166 0 1)) 20016015 d n (nI (tV B T p))) 20016016 d n (nI m)) 10000900 d 4 (nI (n + 1)) else rfM mem (if tK B T p = 2 then 3 else 1) (tS B T p)) := by
  have h1 := sp_X4_takeNumberTold h hcc hc (by omega)
  refine Cl.of (own := RX4) rfl rfl (Nat.le_of_ble_eq_true rfl) rfl ?_; show PR _ _ _ _ _ _ [some _] _ _ _
  by_cases o : tlOk B T p c
  · rw [if_pos o, if_pos o]
    rw [if_pos o, if_pos o] at h1
    have ht' : ((kpM mem 2 (nI (tV B T p)))).1 10000900 d 4 = nI n := by rw [pm_gIn (by simp), pm_gIn (by simp)]; exact ht
    have hs' : ((kpM mem 2 (nI (tV B T p)))).1 10000900 d 5 = nI m := by rw [pm_gIn (by simp), pm_gIn (by simp)]; exact hs
    have hd' : (kpM mem 2 (nI (tV B T p))).2.2 10004904 0 1 = some d := hd
    refine pr_aload_n 1 dX4_takeFieldOfTrip_0 rfl rfl rfl ?_
    refine pr_getI 4 dX4_takeFieldOfTrip_1 fX4_72 rfl ?_
    rw [hc]
    refine pr_if_ne 19 7 dX4_takeFieldOfTrip_4 rfl rfl (fun c_4 => ?_) (fun c_4 => absurd (c_4) (by decide))
    refine pr_aload_n 20 dX4_takeFieldOfTrip_19 rfl rfl rfl ?_
    refine pr_getI 23 dX4_takeFieldOfTrip_20 fX4_72 rfl ?_
    rw [hc]
    refine pr_iconst (1) 24 dX4_takeFieldOfTrip_23 (by decide) rfl ?_
    refine pr_icmp_ne 56 27 dX4_takeFieldOfTrip_24 rfl rfl (fun c_24 => ?_) (fun c_24 => absurd (c_24) (by decide))
    refine pr_aload_n 57 dX4_takeFieldOfTrip_56 rfl rfl rfl ?_
    refine pr_aload_n 58 dX4_takeFieldOfTrip_57 rfl rfl rfl ?_
    refine pr_getP d 61 dX4_takeFieldOfTrip_58 fX4_24 hd rfl ?_
    refine pr_getI 64 dX4_takeFieldOfTrip_61 fX4_91 rfl ?_
    rw [hp]
    refine pr_invD1 67 dX4_takeFieldOfTrip_64 vX4_122 mX4_takeNumberTold (h1) ⟨Nat.le_of_ble_eq_true rfl, Nat.le_of_ble_eq_true rfl⟩ (Nat.le_of_ble_eq_true rfl) rfl ?_
    refine pr_if_ne 72 70 dX4_takeFieldOfTrip_67 rfl rfl (fun c_67 => ?_) (fun c_67 => absurd (c_67) (by decide))
    refine pr_aload_n 73 dX4_takeFieldOfTrip_72 rfl rfl rfl ?_
    refine pr_getP d 76 dX4_takeFieldOfTrip_73 fX4_24 hd' rfl ?_
    refine pr_aload_n 77 dX4_takeFieldOfTrip_76 rfl rfl rfl ?_
    refine pr_getR0 80 dX4_takeFieldOfTrip_77 fX4_9 rfl ?_
    refine pr_iconst (0) 81 dX4_takeFieldOfTrip_80 (by decide) rfl ?_
    refine pr_iaload 0 82 dX4_takeFieldOfTrip_81 rfl rfl rfl (by omega) rfl ?_
    rw [pm_gIn (by simp), pm_gIn (by simp)]
    refine pr_aload_n 83 dX4_takeFieldOfTrip_82 rfl rfl rfl ?_
    refine pr_getR0 86 dX4_takeFieldOfTrip_83 fX4_9 rfl ?_
    refine pr_iconst (1) 87 dX4_takeFieldOfTrip_86 (by decide) rfl ?_
    refine pr_iaload 1 88 dX4_takeFieldOfTrip_87 rfl rfl rfl (by omega) rfl ?_
    rw [pm_gIn (by simp), pm_gIn (by simp)]
    refine pr_aload_n 89 dX4_takeFieldOfTrip_88 rfl rfl rfl ?_
    refine pr_getR0 92 dX4_takeFieldOfTrip_89 fX4_9 rfl ?_
    refine pr_iconst (2) 93 dX4_takeFieldOfTrip_92 (by decide) rfl ?_
    refine pr_iaload 2 94 dX4_takeFieldOfTrip_93 rfl rfl rfl (by omega) rfl ?_
    rw [pm_gIn (t' := 20003166) (by simp), pm_gIe]
    refine pr_inv03 97 dX4_takeFieldOfTrip_94 vX4_128 mX0_addTrip (sp_X0_addTrip ht' hn hs' _ _ _) ⟨Nat.le_of_ble_eq_true rfl, Nat.le_of_ble_eq_true rfl⟩ (Nat.le_of_ble_eq_true rfl) rfl ?_
    refine pr_iconst (1) 98 dX4_takeFieldOfTrip_97 (by decide) rfl ?_
    refine pr_zreturn dX4_takeFieldOfTrip_98 rfl (by first | exact Or.inl rfl | exact Or.inr rfl) ?_
    exact ⟨rfl, rfl⟩
  · rw [if_neg o, if_neg o]
    rw [if_neg o, if_neg o] at h1
    refine pr_aload_n 1 dX4_takeFieldOfTrip_0 rfl rfl rfl ?_
    refine pr_getI 4 dX4_takeFieldOfTrip_1 fX4_72 rfl ?_
    rw [hc]
    refine pr_if_ne 19 7 dX4_takeFieldOfTrip_4 rfl rfl (fun c_4 => ?_) (fun c_4 => absurd (c_4) (by decide))
    refine pr_aload_n 20 dX4_takeFieldOfTrip_19 rfl rfl rfl ?_
    refine pr_getI 23 dX4_takeFieldOfTrip_20 fX4_72 rfl ?_
    rw [hc]
    refine pr_iconst (1) 24 dX4_takeFieldOfTrip_23 (by decide) rfl ?_
    refine pr_icmp_ne 56 27 dX4_takeFieldOfTrip_24 rfl rfl (fun c_24 => ?_) (fun c_24 => absurd (c_24) (by decide))
    refine pr_aload_n 57 dX4_takeFieldOfTrip_56 rfl rfl rfl ?_
    refine pr_aload_n 58 dX4_takeFieldOfTrip_57 rfl rfl rfl ?_
    refine pr_getP d 61 dX4_takeFieldOfTrip_58 fX4_24 hd rfl ?_
    refine pr_getI 64 dX4_takeFieldOfTrip_61 fX4_91 rfl ?_
    rw [hp]
    refine pr_invD1 67 dX4_takeFieldOfTrip_64 vX4_122 mX4_takeNumberTold (h1) ⟨Nat.le_of_ble_eq_true rfl, Nat.le_of_ble_eq_true rfl⟩ (Nat.le_of_ble_eq_true rfl) rfl ?_
    refine pr_if_ne 72 70 dX4_takeFieldOfTrip_67 rfl rfl (fun c_67 => absurd (rfl) (c_67)) (fun c_67 => ?_)
    refine pr_iconst (0) 71 dX4_takeFieldOfTrip_70 (by decide) rfl ?_
    refine pr_zreturn dX4_takeFieldOfTrip_71 rfl (by first | exact Or.inl rfl | exact Or.inr rfl) ?_
    exact ⟨rfl, rfl⟩
end FL3
