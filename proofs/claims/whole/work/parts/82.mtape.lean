/-! the tape of the reference -/
section MTA
variable {mem mem0 : pm_M} {T : Nat} {B : Nat → Nat}
def sTm : Nat → Nat → Prop := fun t i => t ∈ [10009909, 20840361] ∧ i = 0
def mdP (m0 m : pm_M) : Prop := ∀ k, k ≠ 2 → m.1 10009909 0 k = m0.1 10009909 0 k
def mdR (m0 m : pm_M) : Prop := ∀ k, k ≠ 0 → k ≠ 2 → m.1 10009909 0 k = m0.1 10009909 0 k
theorem mdP.tr {m1 m2 : pm_M} (h1 : mdP mem0 m1) (h2 : mdP m1 m2) : mdP mem0 m2 := fun k a => (h2 k a).trans (h1 k a)
theorem ush0 (x : Int32) : ush x 0 = x := by
  apply b_ext
  intro i hi
  rw [ush, b_ushr 0 (by omega), Nat.zero_add]
set_option maxRecDepth 100000 in
theorem sp_X9_lays (h : tapM mem0 T B) (hT : T + 4 ≤ 840) (x : Int32) : Cl yX9_lays cX9_lays 3 none 0 0 [pR 10009909 0, pI x] mem0 (fun r mem => r = none ∧ pm_fr sTm mem0 mem ∧ mdP mem0 mem ∧ tapM mem (T + 4) (bw B T x)) := by
  have st : ∀ (c : Nat) (v : Int32) (mem : pm_M) (T' : Nat) (B' : Nat → Nat) (X : Nat → List (Option pm_v) → List pm_v → pm_M → Prop), c < 32 → T' < 840 → nI c + Int32.ofInt (-8) = v → tapM mem T' B' → (∀ mem', pm_fr sTm mem mem' → mdP mem mem' → tapM mem' (T' + 1) (up B' T' (bN (ush x c))) → PR cX9_lays RX9 3 0 0 3 [some (pR 10009909 0), some (pI x), some (pI v)] [] mem' X) → PR cX9_lays RX9 3 0 0 3 [some (pR 10009909 0), some (pI x), some (pI (nI c))] [] mem X := by
    intro c v mem T' B' X hc hT' hv h hk
    have hk' := hk (pm_uI (pm_uI mem 20840361 0 T' (nI (bN (ush x c)))) 10009909 0 2 (nI (T' + 1))) ((pm_fr.rf.uI ⟨by simp, rfl⟩).uI ⟨by simp, rfl⟩) (fun k hk => by rw [pm_gIn (fun y => hk y.2.2), pm_gIn (by simp)]) (by
      refine ⟨pm_gIe, fun k hk => ?_⟩
      rw [pm_gIn (by simp)]
      unfold up
      by_cases z : k = T'
      · subst z; rw [pm_gIe, if_pos rfl]
      · rw [pm_gIn (fun y => z y.2.2), if_neg z]; exact h.2 k (by omega))
    refine pr_iload_n 4 dX9_lays_3 rfl rfl rfl ?_
    refine pr_if_lt 39 7 dX9_lays_4 rfl rfl (fun c_4 => absurd (c_4) (nI_pos (by omega))) (fun c_4 => ?_)
    refine pr_aload_n 8 dX9_lays_7 rfl rfl rfl ?_
    refine pr_getR0 11 dX9_lays_8 fX9_7 rfl ?_
    refine pr_aload_n 12 dX9_lays_11 rfl rfl rfl ?_
    refine pr_getI 15 dX9_lays_12 fX9_11 rfl ?_
    rw [h.1]
    refine pr_iload_n 16 dX9_lays_15 rfl rfl rfl ?_
    refine pr_iload_n 17 dX9_lays_16 rfl rfl rfl ?_
    refine pr_iushr 18 dX9_lays_17 rfl ?_
    rw [show (x.toUInt32 >>> ((nI c).toUInt32 &&& Int32.toUInt32 31)).toInt32 = ush x c from rfl]
    refine pr_sipush (255) 21 dX9_lays_18 (by decide) rfl ?_
    refine pr_iand 22 dX9_lays_21 rfl ?_
    rw [and255]
    refine pr_iastore T' 23 dX9_lays_22 rfl rfl rfl (by omega) rfl ?_
    refine pr_aload_n 24 dX9_lays_23 rfl rfl rfl ?_
    refine pr_dup rfl 25 dX9_lays_24 rfl ?_
    refine pr_getI 28 dX9_lays_25 fX9_11 rfl ?_
    rw [pm_gIn (by simp), h.1]
    refine pr_iconst (1) 29 dX9_lays_28 (by decide) rfl ?_
    refine pr_iadd 30 dX9_lays_29 rfl ?_
    rw [nI_1]
    refine pr_putI 33 dX9_lays_30 fX9_11 rfl ?_
    refine pr_iinc 36 dX9_lays_33 rfl hv (pm_st_2 rfl rfl) rfl ?_
    refine pr_goto 3 dX9_lays_36 rfl ?_
    exact hk'
  refine Cl.of (own := RX9) rfl rfl (Nat.le_of_ble_eq_true rfl) rfl ?_; show PR _ _ _ _ _ _ [some _, some _, none] _ _ _
  refine pr_bipush (24) 2 dX9_lays_0 (by decide) rfl ?_
  refine pr_istore_n 3 dX9_lays_2 rfl (pm_st_2 rfl rfl) rfl ?_
  refine st 24 (nI 16) mem0 T B _ (by omega) (by omega) rfl h (fun m1 f1 d1 h1 => ?_)
  refine st 16 (nI 8) m1 (T + 1) _ _ (by omega) (by omega) rfl h1 (fun m2 f2 d2 h2 => ?_)
  refine st 8 (nI 0) m2 (T + 2) _ _ (by omega) (by omega) rfl h2 (fun m3 f3 d3 h3 => ?_)
  refine st 0 (-8) m3 (T + 3) _ _ (by omega) (by omega) rfl h3 (fun m4 f4 d4 h4 => ?_)
  rw [ush0] at h4
  refine pr_iload_n 4 dX9_lays_3 rfl rfl rfl ?_
  refine pr_if_lt 39 7 dX9_lays_4 rfl rfl (fun c_4 => ?_) (fun c_4 => absurd (by decide) (c_4))
  refine pr_return dX9_lays_39 rfl ?_
  exact ⟨rfl, ((f1.tr f2).tr f3).tr f4, ((d1.tr d2).tr d3).tr d4, h4⟩
theorem tapM.q1 (h : tapM mem0 T B) {th : Int32} : tapM (mq1 mem0 th) T B := ⟨by rw [pm_gIn (by simp)]; exact h.1, fun k hk => by rw [pm_gIn (by simp)]; exact h.2 k hk⟩
theorem mdP.R {m : pm_M} (h : mdP (mq1 mem0 0) m) : mdR mem0 m ∧ m.1 10009909 0 0 = 0 := ⟨fun k a b => by rw [h k b, pm_gIn (fun y => a y.2.2)], by rw [h _ (by decide), pm_gIe]⟩
theorem mdP.rf : mdP mem mem := fun _ _ => rfl
theorem sTm.q1 {th : Int32} : pm_fr sTm mem0 (mq1 mem0 th) := pm_fr.rf.uI ⟨by simp, rfl⟩
set_option maxRecDepth 100000 in
theorem sp_X9_feed (h : tapM mem0 T B) (hT : T ≤ 840) (a b c d e : Int32) : Cl yX9_feed cX9_feed 6 (some .int) 1 22 [pR 10009909 0, pI a, pI b, pI c, pI d, pI e] mem0 (fun r mem => r = some (pI (if T ≤ 820 then nI (T + 20) else -1)) ∧ pm_fr sTm mem0 mem ∧ (mdR mem0 mem ∧ mem.1 10009909 0 0 = 0) ∧ if T ≤ 820 then tapM mem (T + 20) (fdB B T a b c d e) else tapM mem T B) := by
  have h0 : tapM (mq1 mem0 0) T B := h.q1
  refine Cl.of (own := RX9) rfl rfl (Nat.le_of_ble_eq_true rfl) rfl ?_; show PR _ _ _ _ _ _ [some _, some _, some _, some _, some _, some _] _ _ _
  by_cases z : T ≤ 820
  · rw [show (if T ≤ 820 then nI (T + 20) else -1) = nI (T + 20) from if_pos z]
    simp only [if_pos z]
    refine pr_aload_n 1 dX9_feed_0 rfl rfl rfl ?_
    refine pr_iconst (0) 2 dX9_feed_1 (by decide) rfl ?_
    refine pr_putI 5 dX9_feed_2 fX9_1 rfl ?_
    refine pr_aload_n 6 dX9_feed_5 rfl rfl rfl ?_
    refine pr_getI 9 dX9_feed_6 fX9_11 rfl ?_
    rw [h0.1]
    refine pr_bipush (20) 11 dX9_feed_9 (by decide) rfl ?_
    refine pr_iadd 12 dX9_feed_11 rfl ?_
    rw [show (20 : Int32) = nI 20 from rfl, nI_add]
    refine pr_sipush (840) 15 dX9_feed_12 (by decide) rfl ?_
    refine pr_icmp_le 20 18 dX9_feed_15 rfl rfl (fun c_15 => ?_) (fun c_15 => absurd ((nI_leI (b := 840) (by omega) (by omega)).mpr (by omega)) (c_15))
    refine pr_aload_n 21 dX9_feed_20 rfl rfl rfl ?_
    refine pr_iload_n 22 dX9_feed_21 rfl rfl rfl ?_
    refine pr_inv0R1 25 dX9_feed_22 vX9_14 mX9_lays (sp_X9_lays h0 (by omega) _) ⟨Nat.le_of_ble_eq_true rfl, Nat.le_of_ble_eq_true rfl⟩ (Nat.le_of_ble_eq_true rfl) rfl (fun mem1 h1 => ?_)
    refine pr_aload_n 26 dX9_feed_25 rfl rfl rfl ?_
    refine pr_iload_n 27 dX9_feed_26 rfl rfl rfl ?_
    refine pr_inv0R1 30 dX9_feed_27 vX9_14 mX9_lays (sp_X9_lays h1.2.2 (by omega) _) ⟨Nat.le_of_ble_eq_true rfl, Nat.le_of_ble_eq_true rfl⟩ (Nat.le_of_ble_eq_true rfl) rfl (fun mem2 h2 => ?_)
    refine pr_aload_n 31 dX9_feed_30 rfl rfl rfl ?_
    refine pr_iload_n 32 dX9_feed_31 rfl rfl rfl ?_
    refine pr_inv0R1 35 dX9_feed_32 vX9_14 mX9_lays (sp_X9_lays h2.2.2 (by omega) _) ⟨Nat.le_of_ble_eq_true rfl, Nat.le_of_ble_eq_true rfl⟩ (Nat.le_of_ble_eq_true rfl) rfl (fun mem3 h3 => ?_)
    refine pr_aload_n 36 dX9_feed_35 rfl rfl rfl ?_
    refine pr_iload 38 dX9_feed_36 rfl rfl ?_
    refine pr_inv0R1 41 dX9_feed_38 vX9_14 mX9_lays (sp_X9_lays h3.2.2 (by omega) _) ⟨Nat.le_of_ble_eq_true rfl, Nat.le_of_ble_eq_true rfl⟩ (Nat.le_of_ble_eq_true rfl) rfl (fun mem4 h4 => ?_)
    refine pr_aload_n 42 dX9_feed_41 rfl rfl rfl ?_
    refine pr_iload 44 dX9_feed_42 rfl rfl ?_
    refine pr_inv0R1 47 dX9_feed_44 vX9_14 mX9_lays (sp_X9_lays h4.2.2 (by omega) _) ⟨Nat.le_of_ble_eq_true rfl, Nat.le_of_ble_eq_true rfl⟩ (Nat.le_of_ble_eq_true rfl) rfl (fun mem5 h5 => ?_)
    refine pr_aload_n 48 dX9_feed_47 rfl rfl rfl ?_
    refine pr_getI 51 dX9_feed_48 fX9_11 rfl ?_
    rw [h5.2.2.1]
    refine pr_ireturn dX9_feed_51 rfl ?_
    exact ⟨rfl, sTm.q1.tr ((((h1.1.tr h2.1).tr h3.1).tr h4.1).tr h5.1), ((((h1.2.1.tr h2.2.1).tr h3.2.1).tr h4.2.1).tr h5.2.1).R, h5.2.2⟩
  · rw [show (if T ≤ 820 then nI (T + 20) else -1) = -1 from if_neg z]
    simp only [if_neg z]
    refine pr_aload_n 1 dX9_feed_0 rfl rfl rfl ?_
    refine pr_iconst (0) 2 dX9_feed_1 (by decide) rfl ?_
    refine pr_putI 5 dX9_feed_2 fX9_1 rfl ?_
    refine pr_aload_n 6 dX9_feed_5 rfl rfl rfl ?_
    refine pr_getI 9 dX9_feed_6 fX9_11 rfl ?_
    rw [h0.1]
    refine pr_bipush (20) 11 dX9_feed_9 (by decide) rfl ?_
    refine pr_iadd 12 dX9_feed_11 rfl ?_
    rw [show (20 : Int32) = nI 20 from rfl, nI_add]
    refine pr_sipush (840) 15 dX9_feed_12 (by decide) rfl ?_
    refine pr_icmp_le 20 18 dX9_feed_15 rfl rfl (fun c_15 => absurd (c_15) (fun y => z (by have := (nI_leI (b := 840) (by omega) (by omega)).mp y; omega))) (fun c_15 => ?_)
    refine pr_iconst (-1) 19 dX9_feed_18 (by decide) rfl ?_
    refine pr_ireturn dX9_feed_19 rfl ?_
    exact ⟨rfl, sTm.q1, mdP.rf.R, h0⟩
set_option maxRecDepth 100000 in
theorem sp_X9_end (h : tapM mem0 T B) (hT : T ≤ 840) (n : Int32) : Cl yX9_end cX9_end 2 (some .boolean) 0 0 [pR 10009909 0, pI n] mem0 (fun r mem => r = some (pI (vb n (T + 1))) ∧ pm_fr sTm mem0 mem ∧ (mdR mem0 mem ∧ mem.1 10009909 0 0 = 0) ∧ tapM mem ((vix n (T + 1)).getD T) B) := by
  have h0 : tapM (mq1 mem0 0) T B := h.q1
  refine Cl.of (own := RX9) rfl rfl (Nat.le_of_ble_eq_true rfl) rfl ?_; show PR _ _ _ _ _ _ [some _, some _] _ _ _
  rcases hv : vix n (T + 1) with _ | j
  · rw [vb_n hv]
    refine pr_aload_n 1 dX9_end_0 rfl rfl rfl ?_
    refine pr_iconst (0) 2 dX9_end_1 (by decide) rfl ?_
    refine pr_putI 5 dX9_end_2 fX9_1 rfl ?_
    refine pr_iload_n 6 dX9_end_5 rfl rfl rfl ?_
    refine pr_if_lt 17 9 dX9_end_6 rfl rfl (fun c_6 => ?_) (fun c_6 => ?_)
    · refine pr_iconst (0) 18 dX9_end_17 (by decide) rfl ?_
      refine pr_zreturn dX9_end_18 rfl (by first | exact Or.inl rfl | exact Or.inr rfl) ?_
      exact ⟨rfl, sTm.q1, mdP.rf.R, h0⟩
    · refine pr_iload_n 10 dX9_end_9 rfl rfl rfl ?_
      refine pr_aload_n 11 dX9_end_10 rfl rfl rfl ?_
      refine pr_getI 14 dX9_end_11 fX9_11 rfl ?_
      rw [h0.1]
      refine pr_icmp_le 19 17 dX9_end_14 rfl rfl (fun c_14 => ?_) (fun c_14 => ?_)
      · exact absurd hv (vix_ne (by omega) c_6 c_14)
      · refine pr_iconst (0) 18 dX9_end_17 (by decide) rfl ?_
        refine pr_zreturn dX9_end_18 rfl (by first | exact Or.inl rfl | exact Or.inr rfl) ?_
        exact ⟨rfl, sTm.q1, mdP.rf.R, h0⟩
  · rw [vb_s1 hv]
    obtain ⟨rfl, hj⟩ := vix_some (by omega) hv
    refine pr_aload_n 1 dX9_end_0 rfl rfl rfl ?_
    refine pr_iconst (0) 2 dX9_end_1 (by decide) rfl ?_
    refine pr_putI 5 dX9_end_2 fX9_1 rfl ?_
    refine pr_iload_n 6 dX9_end_5 rfl rfl rfl ?_
    refine pr_if_lt 17 9 dX9_end_6 rfl rfl (fun c_6 => absurd (c_6) (nI_pos (by omega))) (fun c_6 => ?_)
    refine pr_iload_n 10 dX9_end_9 rfl rfl rfl ?_
    refine pr_aload_n 11 dX9_end_10 rfl rfl rfl ?_
    refine pr_getI 14 dX9_end_11 fX9_11 rfl ?_
    rw [h0.1]
    refine pr_icmp_le 19 17 dX9_end_14 rfl rfl (fun c_14 => ?_) (fun c_14 => absurd ((nI_leI (by omega) (by omega)).mpr (by omega)) (c_14))
    refine pr_aload_n 20 dX9_end_19 rfl rfl rfl ?_
    refine pr_iload_n 21 dX9_end_20 rfl rfl rfl ?_
    refine pr_putI 24 dX9_end_21 fX9_11 rfl ?_
    refine pr_iconst (1) 25 dX9_end_24 (by decide) rfl ?_
    refine pr_zreturn dX9_end_25 rfl (by first | exact Or.inl rfl | exact Or.inr rfl) ?_
    refine ⟨rfl, sTm.q1.uI ⟨by simp, rfl⟩, mdP.R (fun k hk => pm_gIn (fun y => hk y.2.2)), pm_gIe, fun k hk => ?_⟩
    rw [pm_gIn (by simp)]
    exact h0.2 k (by have : k < j := hk; omega)
set_option maxRecDepth 100000 in
theorem sp_X9_fault : Cl yX9_fault cX9_fault 1 (some .int) 0 0 [pR 10009909 0] mem0 (mqP mem0 (mem0.1 10009909 0 8) 0) := by
  refine Cl.of (own := RX9) rfl rfl (Nat.le_of_ble_eq_true rfl) rfl ?_; show PR _ _ _ _ _ _ [some _] _ _ _
  refine pr_aload_n 1 dX9_fault_0 rfl rfl rfl ?_
  refine pr_iconst (0) 2 dX9_fault_1 (by decide) rfl ?_
  refine pr_putI 5 dX9_fault_2 fX9_1 rfl ?_
  refine pr_aload_n 6 dX9_fault_5 rfl rfl rfl ?_
  refine pr_getI 9 dX9_fault_6 fX9_52 rfl ?_
  rw [pm_gIn (by simp)]
  refine pr_ireturn dX9_fault_9 rfl ?_
  exact mqP.q1
end MTA
