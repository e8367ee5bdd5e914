/-! the tape -/
def bN (x : Int32) : Nat := x.toBitVec.toNat % 256
theorem bN_lt (x : Int32) : bN x < 256 := Nat.mod_lt _ (by omega)
theorem and255 (x : Int32) : x &&& 255 = nI (bN x) := by
  apply b_ext
  intro i hi
  rw [b_and, b_255, b_nI _ _ hi, bN, show (256 : Nat) = 2 ^ 8 from rfl, Nat.testBit_mod_two_pow]
  unfold bt
  rw [Bool.and_comm, ← BitVec.testBit_toNat]
theorem nar255 (x : Int32) : (vp_nar .byte x.toInt8.toInt32) &&& 255 = nI (bN x) := by
  rw [← and255 x]
  apply b_ext
  intro i hi
  rw [b_and, b_and, b_255]
  by_cases z : i < 8
  · have e : bt (vp_nar .byte x.toInt8.toInt32) i = bt x i := by
      rw [vp_nar_byte]
      unfold bt
      show ((((x.toBitVec.signExtend 8).signExtend 32).signExtend 8).signExtend 32).getLsbD i = _
      rw [BitVec.getLsbD_signExtend, BitVec.getLsbD_signExtend, BitVec.getLsbD_signExtend, BitVec.getLsbD_signExtend]
      simp [z, hi]
    rw [e]
  · simp [z]
section TAP
variable {mem mem0 : pm_M} {T : Nat} {B : Nat → Nat}
def tapC (mem : pm_M) (T : Nat) (B : Nat → Nat) : Prop := mem.1 10007907 0 1 = nI T ∧ ∀ k, k < T → (mem.1 30840280 0 k) &&& 255 = nI (B k)
def tapM (mem : pm_M) (T : Nat) (B : Nat → Nat) : Prop := mem.1 10009909 0 2 = nI T ∧ ∀ k, k < T → mem.1 20840361 0 k = nI (B k)
def sTp : Nat → Nat → Prop := fun t i => t ∈ [10007907, 30840280] ∧ i = 0
def ush (x : Int32) (n : Nat) : Int32 := (x.toUInt32 >>> ((nI n).toUInt32 &&& Int32.toUInt32 31)).toInt32
/-- the four bytes of a number laid behind T -/
def bw (B : Nat → Nat) (T : Nat) (w : Int32) : Nat → Nat := up (up (up (up B T (bN (ush w 24))) (T + 1) (bN (ush w 16))) (T + 2) (bN (ush w 8))) (T + 3) (bN w)
set_option maxRecDepth 100000 in
theorem sp_X7_addByte (h : tapC mem0 T B) (hT : T < 840) (x : Int32) : Cl yX7_addByte cX7_addByte 2 none 0 0 [pR 10007907 0, pI x] mem0 (fun r mem => r = none ∧ pm_fr sTp mem0 mem ∧ tapC mem (T + 1) (up B T (bN x))) := by
  refine Cl.of (own := RX7) rfl rfl (Nat.le_of_ble_eq_true rfl) rfl ?_; show PR _ _ _ _ _ _ [some _, some _] _ _ _
  refine pr_aload_n 1 dX7_addByte_0 rfl rfl rfl ?_
  refine pr_getI 4 dX7_addByte_1 fX7_19 rfl ?_
  rw [h.1]
  refine pr_if_lt 40 7 dX7_addByte_4 rfl rfl (fun c_4 => absurd (c_4) (nI_pos (by omega))) (fun c_4 => ?_)
  refine pr_aload_n 8 dX7_addByte_7 rfl rfl rfl ?_
  refine pr_getI 11 dX7_addByte_8 fX7_19 rfl ?_
  rw [h.1]
  refine pr_aload_n 12 dX7_addByte_11 rfl rfl rfl ?_
  refine pr_getR0 15 dX7_addByte_12 fX7_9 rfl ?_
  refine pr_alenB 16 dX7_addByte_15 rfl rfl rfl ?_
  refine pr_icmp_ge 40 19 dX7_addByte_16 rfl rfl (fun c_16 => absurd (c_16) (nI_ge (by omega) (by omega))) (fun c_16 => ?_)
  refine pr_aload_n 20 dX7_addByte_19 rfl rfl rfl ?_
  refine pr_getR0 23 dX7_addByte_20 fX7_9 rfl ?_
  refine pr_aload_n 24 dX7_addByte_23 rfl rfl rfl ?_
  refine pr_getI 27 dX7_addByte_24 fX7_19 rfl ?_
  rw [h.1]
  refine pr_iload_n 28 dX7_addByte_27 rfl rfl rfl ?_
  refine pr_i2b 29 dX7_addByte_28 rfl ?_
  refine pr_bastore T 30 dX7_addByte_29 rfl rfl rfl (by omega) rfl ?_
  refine pr_aload_n 31 dX7_addByte_30 rfl rfl rfl ?_
  refine pr_dup rfl 32 dX7_addByte_31 rfl ?_
  refine pr_getI 35 dX7_addByte_32 fX7_19 rfl ?_
  rw [pm_gIn (by simp), h.1]
  refine pr_iconst (1) 36 dX7_addByte_35 (by decide) rfl ?_
  refine pr_iadd 37 dX7_addByte_36 rfl ?_
  rw [nI_1]
  refine pr_putI 40 dX7_addByte_37 fX7_19 rfl ?_
  refine pr_return dX7_addByte_40 rfl ?_
  refine ⟨rfl, (pm_fr.rf.uI ⟨by simp, rfl⟩).uI ⟨by simp, rfl⟩, pm_gIe, fun k hk => ?_⟩
  rw [pm_gIn (by simp)]
  unfold up
  by_cases z : k = T
  · subst z; rw [pm_gIe, if_pos rfl]; exact nar255 x
  · rw [pm_gIn (fun y => z y.2.2), if_neg z]; exact h.2 k (by omega)
set_option maxRecDepth 100000 in
theorem sp_X7_addNumber (h : tapC mem0 T B) (hT : T + 4 ≤ 840) (x : Int32) : Cl yX7_addNumber cX7_addNumber 2 none 1 21 [pR 10007907 0, pI x] mem0 (fun r mem => r = none ∧ pm_fr sTp mem0 mem ∧ tapC mem (T + 4) (bw B T x)) := by
  refine Cl.of (own := RX7) rfl rfl (Nat.le_of_ble_eq_true rfl) rfl ?_; show PR _ _ _ _ _ _ [some _, some _] _ _ _
  refine pr_aload_n 1 dX7_addNumber_0 rfl rfl rfl ?_
  refine pr_iload_n 2 dX7_addNumber_1 rfl rfl rfl ?_
  refine pr_bipush (24) 4 dX7_addNumber_2 (by decide) rfl ?_
  refine pr_iushr 5 dX7_addNumber_4 rfl ?_
  refine pr_inv0R1 8 dX7_addNumber_5 vX7_15 mX7_addByte (sp_X7_addByte h (by omega) _) ⟨Nat.le_of_ble_eq_true rfl, Nat.le_of_ble_eq_true rfl⟩ (Nat.le_of_ble_eq_true rfl) rfl (fun mem1 h1 => ?_)
  refine pr_aload_n 9 dX7_addNumber_8 rfl rfl rfl ?_
  refine pr_iload_n 10 dX7_addNumber_9 rfl rfl rfl ?_
  refine pr_bipush (16) 12 dX7_addNumber_10 (by decide) rfl ?_
  refine pr_iushr 13 dX7_addNumber_12 rfl ?_
  refine pr_inv0R1 16 dX7_addNumber_13 vX7_15 mX7_addByte (sp_X7_addByte h1.2 (by omega) _) ⟨Nat.le_of_ble_eq_true rfl, Nat.le_of_ble_eq_true rfl⟩ (Nat.le_of_ble_eq_true rfl) rfl (fun mem2 h2 => ?_)
  refine pr_aload_n 17 dX7_addNumber_16 rfl rfl rfl ?_
  refine pr_iload_n 18 dX7_addNumber_17 rfl rfl rfl ?_
  refine pr_bipush (8) 20 dX7_addNumber_18 (by decide) rfl ?_
  refine pr_iushr 21 dX7_addNumber_20 rfl ?_
  refine pr_inv0R1 24 dX7_addNumber_21 vX7_15 mX7_addByte (sp_X7_addByte h2.2 (by omega) _) ⟨Nat.le_of_ble_eq_true rfl, Nat.le_of_ble_eq_true rfl⟩ (Nat.le_of_ble_eq_true rfl) rfl (fun mem3 h3 => ?_)
  refine pr_aload_n 25 dX7_addNumber_24 rfl rfl rfl ?_
  refine pr_iload_n 26 dX7_addNumber_25 rfl rfl rfl ?_
  refine pr_inv0R1 29 dX7_addNumber_26 vX7_15 mX7_addByte (sp_X7_addByte h3.2 (by omega) _) ⟨Nat.le_of_ble_eq_true rfl, Nat.le_of_ble_eq_true rfl⟩ (Nat.le_of_ble_eq_true rfl) rfl (fun mem4 h4 => ?_)
  refine pr_return dX7_addNumber_29 rfl ?_
  exact ⟨rfl, ((h1.1.tr h2.1).tr h3.1).tr h4.1, h4.2⟩
def fdB (B : Nat → Nat) (T : Nat) (a b c d e : Int32) : Nat → Nat := bw (bw (bw (bw (bw B T a) (T + 4) b) (T + 8) c) (T + 12) d) (T + 16) e
set_option maxRecDepth 100000 in
theorem sp_X8_feed (h : tapC mem0 T B) (hT : T ≤ 840) (a b c d e : Int32) : Cl yX8_feed cX8_feed 6 (some .int) 2 42 [pR 10008908 0, pI a, pI b, pI c, pI d, pI e] mem0 (fun r mem => r = some (pI (if T ≤ 820 then nI (T + 20) else -1)) ∧ pm_fr sTp mem0 mem ∧ if T ≤ 820 then tapC mem (T + 20) (fdB B T a b c d e) else tapC mem T B) := by
  refine Cl.of (own := RX8) rfl rfl (Nat.le_of_ble_eq_true rfl) rfl ?_; show PR _ _ _ _ _ _ [some _, some _, some _, some _, some _, some _] _ _ _
  by_cases z : T ≤ 820
  · rw [show (if T ≤ 820 then nI (T + 20) else -1) = nI (T + 20) from if_pos z]
    simp only [if_pos z]
    refine pr_aload_n 1 dX8_feed_0 rfl rfl rfl ?_
    refine pr_getR0 4 dX8_feed_1 fX8_12 rfl ?_
    refine pr_getI 7 dX8_feed_4 fX8_63 rfl ?_
    rw [h.1]
    refine pr_sipush (820) 10 dX8_feed_7 (by decide) rfl ?_
    refine pr_icmp_le 15 13 dX8_feed_10 rfl rfl (fun c_10 => ?_) (fun c_10 => absurd ((nI_leI (b := 820) (by omega) (by omega)).mpr z) (c_10))
    refine pr_aload_n 16 dX8_feed_15 rfl rfl rfl ?_
    refine pr_getR0 19 dX8_feed_16 fX8_12 rfl ?_
    refine pr_iload_n 20 dX8_feed_19 rfl rfl rfl ?_
    refine pr_inv0R1 23 dX8_feed_20 vX8_66 mX7_addNumber (sp_X7_addNumber h (by omega) _) ⟨Nat.le_of_ble_eq_true rfl, Nat.le_of_ble_eq_true rfl⟩ (Nat.le_of_ble_eq_true rfl) rfl (fun mem1 h1 => ?_)
    refine pr_aload_n 24 dX8_feed_23 rfl rfl rfl ?_
    refine pr_getR0 27 dX8_feed_24 fX8_12 rfl ?_
    refine pr_iload_n 28 dX8_feed_27 rfl rfl rfl ?_
    refine pr_inv0R1 31 dX8_feed_28 vX8_66 mX7_addNumber (sp_X7_addNumber h1.2 (by omega) _) ⟨Nat.le_of_ble_eq_true rfl, Nat.le_of_ble_eq_true rfl⟩ (Nat.le_of_ble_eq_true rfl) rfl (fun mem2 h2 => ?_)
    refine pr_aload_n 32 dX8_feed_31 rfl rfl rfl ?_
    refine pr_getR0 35 dX8_feed_32 fX8_12 rfl ?_
    refine pr_iload_n 36 dX8_feed_35 rfl rfl rfl ?_
    refine pr_inv0R1 39 dX8_feed_36 vX8_66 mX7_addNumber (sp_X7_addNumber h2.2 (by omega) _) ⟨Nat.le_of_ble_eq_true rfl, Nat.le_of_ble_eq_true rfl⟩ (Nat.le_of_ble_eq_true rfl) rfl (fun mem3 h3 => ?_)
    refine pr_aload_n 40 dX8_feed_39 rfl rfl rfl ?_
    refine pr_getR0 43 dX8_feed_40 fX8_12 rfl ?_
    refine pr_iload 45 dX8_feed_43 rfl rfl ?_
    refine pr_inv0R1 48 dX8_feed_45 vX8_66 mX7_addNumber (sp_X7_addNumber h3.2 (by omega) _) ⟨Nat.le_of_ble_eq_true rfl, Nat.le_of_ble_eq_true rfl⟩ (Nat.le_of_ble_eq_true rfl) rfl (fun mem4 h4 => ?_)
    refine pr_aload_n 49 dX8_feed_48 rfl rfl rfl ?_
    refine pr_getR0 52 dX8_feed_49 fX8_12 rfl ?_
    refine pr_iload 54 dX8_feed_52 rfl rfl ?_
    refine pr_inv0R1 57 dX8_feed_54 vX8_66 mX7_addNumber (sp_X7_addNumber h4.2 (by omega) _) ⟨Nat.le_of_ble_eq_true rfl, Nat.le_of_ble_eq_true rfl⟩ (Nat.le_of_ble_eq_true rfl) rfl (fun mem5 h5 => ?_)
    refine pr_aload_n 58 dX8_feed_57 rfl rfl rfl ?_
    refine pr_getR0 61 dX8_feed_58 fX8_12 rfl ?_
    refine pr_getI 64 dX8_feed_61 fX8_63 rfl ?_
    rw [h5.2.1]
    refine pr_ireturn dX8_feed_64 rfl ?_
    exact ⟨rfl, (((h1.1.tr h2.1).tr h3.1).tr h4.1).tr h5.1, h5.2⟩
  · rw [show (if T ≤ 820 then nI (T + 20) else -1) = -1 from if_neg z]
    simp only [if_neg z]
    refine pr_aload_n 1 dX8_feed_0 rfl rfl rfl ?_
    refine pr_getR0 4 dX8_feed_1 fX8_12 rfl ?_
    refine pr_getI 7 dX8_feed_4 fX8_63 rfl ?_
    rw [h.1]
    refine pr_sipush (820) 10 dX8_feed_7 (by decide) rfl ?_
    refine pr_icmp_le 15 13 dX8_feed_10 rfl rfl (fun c_10 => absurd (c_10) (fun y => z ((nI_leI (b := 820) (by omega) (by omega)).mp y))) (fun c_10 => ?_)
    refine pr_iconst (-1) 14 dX8_feed_13 (by decide) rfl ?_
    refine pr_ireturn dX8_feed_14 rfl ?_
    exact ⟨rfl, pm_fr.rf, h⟩
def enT (T : Nat) (n : Int32) : Option Nat := vix n (T + 1)
set_option maxRecDepth 100000 in
theorem sp_X8_end (h : tapC mem0 T B) (hT : T ≤ 840) (n : Int32) : Cl yX8_end cX8_end 2 (some .boolean) 0 0 [pR 10008908 0, pI n] mem0 (fun r mem => r = some (pI (vb n (T + 1))) ∧ pm_fr sTp mem0 mem ∧ tapC mem ((vix n (T + 1)).getD T) B) := by
  refine Cl.of (own := RX8) rfl rfl (Nat.le_of_ble_eq_true rfl) rfl ?_; show PR _ _ _ _ _ _ [some _, some _] _ _ _
  rcases hv : vix n (T + 1) with _ | j
  · rw [vb_n hv]
    refine pr_iload_n 1 dX8_end_0 rfl rfl rfl ?_
    refine pr_if_lt 15 4 dX8_end_1 rfl rfl (fun c_1 => ?_) (fun c_1 => ?_)
    · refine pr_iconst (0) 16 dX8_end_15 (by decide) rfl ?_
      refine pr_zreturn dX8_end_16 rfl (by first | exact Or.inl rfl | exact Or.inr rfl) ?_
      exact ⟨rfl, pm_fr.rf, h⟩
    · refine pr_iload_n 5 dX8_end_4 rfl rfl rfl ?_
      refine pr_aload_n 6 dX8_end_5 rfl rfl rfl ?_
      refine pr_getR0 9 dX8_end_6 fX8_12 rfl ?_
      refine pr_getI 12 dX8_end_9 fX8_63 rfl ?_
      rw [h.1]
      refine pr_icmp_le 17 15 dX8_end_12 rfl rfl (fun c_12 => ?_) (fun c_12 => ?_)
      · exact absurd hv (vix_ne (by omega) c_1 c_12)
      · refine pr_iconst (0) 16 dX8_end_15 (by decide) rfl ?_
        refine pr_zreturn dX8_end_16 rfl (by first | exact Or.inl rfl | exact Or.inr rfl) ?_
        exact ⟨rfl, pm_fr.rf, h⟩
  · rw [vb_s1 hv]
    obtain ⟨rfl, hj⟩ := vix_some (by omega) hv
    refine pr_iload_n 1 dX8_end_0 rfl rfl rfl ?_
    refine pr_if_lt 15 4 dX8_end_1 rfl rfl (fun c_1 => absurd (c_1) (nI_pos (by omega))) (fun c_1 => ?_)
    refine pr_iload_n 5 dX8_end_4 rfl rfl rfl ?_
    refine pr_aload_n 6 dX8_end_5 rfl rfl rfl ?_
    refine pr_getR0 9 dX8_end_6 fX8_12 rfl ?_
    refine pr_getI 12 dX8_end_9 fX8_63 rfl ?_
    rw [h.1]
    refine pr_icmp_le 17 15 dX8_end_12 rfl rfl (fun c_12 => ?_) (fun c_12 => absurd ((nI_leI (by omega) (by omega)).mpr (by omega)) (c_12))
    refine pr_aload_n 18 dX8_end_17 rfl rfl rfl ?_
    refine pr_getR0 21 dX8_end_18 fX8_12 rfl ?_
    refine pr_iload_n 22 dX8_end_21 rfl rfl rfl ?_
    refine pr_putI 25 dX8_end_22 fX8_63 rfl ?_
    refine pr_iconst (1) 26 dX8_end_25 (by decide) rfl ?_
    refine pr_zreturn dX8_end_26 rfl (by first | exact Or.inl rfl | exact Or.inr rfl) ?_
    exact ⟨rfl, pm_fr.rf.uI ⟨by simp, rfl⟩, pm_gIe, fun k hk => by rw [pm_gIn (by simp)]; exact h.2 k (by have : k < j := hk; omega)⟩
set_option maxRecDepth 100000 in
theorem sp_X8_fault : Cd yX8_fault cX8_fault 1 (some .int) 0 0 [pR 10008908 0] mem (some (pI (mem.1 10008908 0 8))) mem := by
  refine Cl.of (own := RX8) rfl rfl (Nat.le_of_ble_eq_true rfl) rfl ?_; show PR _ _ _ _ _ _ [some _] _ _ _
  refine pr_aload_n 1 dX8_fault_0 rfl rfl rfl ?_
  refine pr_getI 4 dX8_fault_1 fX8_59 rfl ?_
  refine pr_ireturn dX8_fault_4 rfl ?_
  exact ⟨rfl, rfl⟩
end TAP
