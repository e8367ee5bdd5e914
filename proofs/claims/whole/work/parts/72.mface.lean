/-! the reference: its queries -/
def sMQ : Nat → Nat → Prop := fun t i => t ∈ [10009909, 20017375, 20017376, 20016377, 20016378, 20016379, 20289381, 20017380, 40017384, 20017383, 20017382, 40017385, 21000389] ∧ i = 0
def mdQ (m0 m : pm_M) : Prop := ∀ k, k ≠ 26 → k ≠ 27 → k ≠ 28 → k ≠ 30 → m.1 10009909 0 k = m0.1 10009909 0 k
def mdT (m0 m : pm_M) : Prop := ∀ k, k ≠ 0 → k ≠ 26 → k ≠ 27 → k ≠ 28 → k ≠ 30 → m.1 10009909 0 k = m0.1 10009909 0 k
def mqP (m0 : pm_M) (v th : Int32) : Option pm_v → pm_M → Prop := fun r mem => r = some (pI v) ∧ pm_fr sMQ m0 mem ∧ mdT m0 mem ∧ mem.1 10009909 0 0 = th
abbrev mq1 (m0 : pm_M) (th : Int32) : pm_M := pm_uI m0 10009909 0 0 th
section MF
variable {mem mem0 : pm_M} {K : Nat → Nat}
theorem mdQ.rf : mdQ mem mem := fun _ _ _ _ _ => rfl
theorem mdQ.tr {m0 m1 m2 : pm_M} (h1 : mdQ m0 m1) (h2 : mdQ m1 m2) : mdQ m0 m2 := fun k a b c d => (h2 k a b c d).trans (h1 k a b c d)
theorem mdT.tr {m0 m1 m2 : pm_M} (h1 : mdT m0 m1) (h2 : mdQ m1 m2) : mdT m0 m2 := fun k z a b c d => (h2 k a b c d).trans (h1 k z a b c d)
theorem mdT.q1 {th : Int32} : mdT mem0 (mq1 mem0 th) := fun k z _ _ _ _ => pm_gIn (fun y => z y.2.2)
theorem fr.q1 {th : Int32} : pm_fr sMQ mem0 (mq1 mem0 th) := pm_fr.rf.uI ⟨by simp, rfl⟩
theorem rowR.q1 {th : Int32} (h : rowR 20869371 mem0 K) : rowR 20869371 (mq1 mem0 th) K := h.fr fr.q1 (by simp [sMQ])
theorem mqP.q1 {v th : Int32} : mqP mem0 v th (some (pI v)) (mq1 mem0 th) := ⟨rfl, fr.q1, mdT.q1, pm_gIe⟩
theorem mqP.of {v th : Int32} {m : pm_M} (hf : pm_fr sMQ (mq1 mem0 th) m) (hm : mdQ (mq1 mem0 th) m) : mqP mem0 v th (some (pI v)) m := ⟨rfl, fr.q1.tr hf, mdT.q1.tr hm, by rw [hm _ (by decide) (by decide) (by decide) (by decide), pm_gIe]⟩
theorem vb01 (p : Int32) (n : Nat) : vb p n = 0 ∨ vb p n = 1 := by
  unfold vb
  split
  · exact Or.inr rfl
  · exact Or.inl rfl
theorem sp_isInM (p : Int32) {n : Nat} (hn : n < 2000) : Cd yX9_isIn cX9_isIn 3 (some .boolean) 0 0 [pI p, pI 0, pI (nI n - 1)] mem (some (pI (vb p n))) mem := by
  have := sp_X9_isIn (mem := mem) p 0 (nI n - 1)
  have e : (if 0 ≤ p ∧ p ≤ nI n - 1 then (1 : Int32) else 0) = vb p n := by
    rcases hv : vix p n with _ | j
    · rw [vb_n hv]; exact (vixM hn).mpr hv
    · rw [vb_s1 hv]
      by_cases z : 0 ≤ p ∧ p ≤ nI n - 1
      · rw [if_pos z]
      · exfalso
        have := (vixM (i := p) hn).mp (by rw [if_neg z])
        rw [hv] at this
        cases this
  rw [e] at this
  exact this
set_option maxRecDepth 100000 in
theorem sp_X9_thrown : Cd yX9_thrown cX9_thrown 1 (some .int) 0 0 [pR 10009909 0] mem (some (pI (mem.1 10009909 0 0))) mem := by
  refine Cl.of (own := RX9) rfl rfl (Nat.le_of_ble_eq_true rfl) rfl ?_; show PR _ _ _ _ _ _ [some _] _ _ _
  refine pr_aload_n 1 dX9_thrown_0 rfl rfl rfl ?_
  refine pr_getI 4 dX9_thrown_1 fX9_1 rfl ?_
  refine pr_ireturn dX9_thrown_4 rfl ?_
  exact ⟨rfl, rfl⟩
set_option maxRecDepth 100000 in
theorem sp_X9_isPlace (h : rowR 20869371 mem K) (hW : WF K) (p : Int32) : Cd yX9_isPlace cX9_isPlace 2 (some .boolean) 1 22 [pR 10009909 0, pI p] mem (some (pI (vb p (K 37)))) mem := by
  have := hW.2.1
  refine Cl.of (own := RX9) rfl rfl (Nat.le_of_ble_eq_true rfl) rfl ?_; show PR _ _ _ _ _ _ [some _, some _] _ _ _
  refine pr_iload_n 1 dX9_isPlace_0 rfl rfl rfl ?_
  refine pr_iconst (0) 2 dX9_isPlace_1 (by decide) rfl ?_
  refine pr_aload_n 3 dX9_isPlace_2 rfl rfl rfl ?_
  refine pr_getR0 6 dX9_isPlace_3 fX9_64 rfl ?_
  refine pr_bipush (37) 8 dX9_isPlace_6 (by decide) rfl ?_
  refine pr_iaload 37 9 dX9_isPlace_8 rfl rfl rfl (by omega) rfl ?_
  rw [h.1 37 (by omega) (by omega)]
  refine pr_iconst (1) 10 dX9_isPlace_9 (by decide) rfl ?_
  refine pr_isub 11 dX9_isPlace_10 rfl ?_
  refine pr_ivsD3 14 dX9_isPlace_11 sX9_113 mX9_isIn (sp_isInM _ (by omega)) ⟨Nat.le_of_ble_eq_true rfl, Nat.le_of_ble_eq_true rfl⟩ (Nat.le_of_ble_eq_true rfl) rfl ?_
  refine pr_zreturn dX9_isPlace_14 rfl (vb01 _ _) ?_
  exact ⟨rfl, rfl⟩
set_option maxRecDepth 100000 in
theorem sp_X9_isTruck (h : rowR 20869371 mem K) (hW : WF K) (p : Int32) : Cd yX9_isTruck cX9_isTruck 2 (some .boolean) 1 22 [pR 10009909 0, pI p] mem (some (pI (vb p (K 38)))) mem := by
  have := hW.2.2.1
  refine Cl.of (own := RX9) rfl rfl (Nat.le_of_ble_eq_true rfl) rfl ?_; show PR _ _ _ _ _ _ [some _, some _] _ _ _
  refine pr_iload_n 1 dX9_isTruck_0 rfl rfl rfl ?_
  refine pr_iconst (0) 2 dX9_isTruck_1 (by decide) rfl ?_
  refine pr_aload_n 3 dX9_isTruck_2 rfl rfl rfl ?_
  refine pr_getR0 6 dX9_isTruck_3 fX9_64 rfl ?_
  refine pr_bipush (38) 8 dX9_isTruck_6 (by decide) rfl ?_
  refine pr_iaload 38 9 dX9_isTruck_8 rfl rfl rfl (by omega) rfl ?_
  rw [h.1 38 (by omega) (by omega)]
  refine pr_iconst (1) 10 dX9_isTruck_9 (by decide) rfl ?_
  refine pr_isub 11 dX9_isTruck_10 rfl ?_
  refine pr_ivsD3 14 dX9_isTruck_11 sX9_113 mX9_isIn (sp_isInM _ (by omega)) ⟨Nat.le_of_ble_eq_true rfl, Nat.le_of_ble_eq_true rfl⟩ (Nat.le_of_ble_eq_true rfl) rfl ?_
  refine pr_zreturn dX9_isTruck_14 rfl (vb01 _ _) ?_
  exact ⟨rfl, rfl⟩
set_option maxRecDepth 100000 in
theorem sp_X9_isLoad (h : rowR 20869371 mem K) (hW : WF K) (p : Int32) : Cd yX9_isLoad cX9_isLoad 2 (some .boolean) 1 22 [pR 10009909 0, pI p] mem (some (pI (vb p (K 39)))) mem := by
  have := hW.2.2.2.1
  refine Cl.of (own := RX9) rfl rfl (Nat.le_of_ble_eq_true rfl) rfl ?_; show PR _ _ _ _ _ _ [some _, some _] _ _ _
  refine pr_iload_n 1 dX9_isLoad_0 rfl rfl rfl ?_
  refine pr_iconst (0) 2 dX9_isLoad_1 (by decide) rfl ?_
  refine pr_aload_n 3 dX9_isLoad_2 rfl rfl rfl ?_
  refine pr_invD0 6 dX9_isLoad_3 vX9_170 mX9_loads (sp_X9_loads h) ⟨Nat.le_of_ble_eq_true rfl, Nat.le_of_ble_eq_true rfl⟩ (Nat.le_of_ble_eq_true rfl) rfl ?_
  refine pr_iconst (1) 7 dX9_isLoad_6 (by decide) rfl ?_
  refine pr_isub 8 dX9_isLoad_7 rfl ?_
  refine pr_ivsD3 11 dX9_isLoad_8 sX9_113 mX9_isIn (sp_isInM _ (by omega)) ⟨Nat.le_of_ble_eq_true rfl, Nat.le_of_ble_eq_true rfl⟩ (Nat.le_of_ble_eq_true rfl) rfl ?_
  refine pr_zreturn dX9_isLoad_11 rfl (vb01 _ _) ?_
  exact ⟨rfl, rfl⟩
set_option maxRecDepth 100000 in
theorem sp_X9_isTrip (h : rowR 20869371 mem K) (hW : WF K) (p : Int32) : Cd yX9_isTrip cX9_isTrip 2 (some .boolean) 1 22 [pR 10009909 0, pI p] mem (some (pI (vb p (K 40)))) mem := by
  have := hW.2.2.2.2.1
  refine Cl.of (own := RX9) rfl rfl (Nat.le_of_ble_eq_true rfl) rfl ?_; show PR _ _ _ _ _ _ [some _, some _] _ _ _
  refine pr_iload_n 1 dX9_isTrip_0 rfl rfl rfl ?_
  refine pr_iconst (0) 2 dX9_isTrip_1 (by decide) rfl ?_
  refine pr_aload_n 3 dX9_isTrip_2 rfl rfl rfl ?_
  refine pr_invD0 6 dX9_isTrip_3 vX9_173 mX9_trips (sp_X9_trips h) ⟨Nat.le_of_ble_eq_true rfl, Nat.le_of_ble_eq_true rfl⟩ (Nat.le_of_ble_eq_true rfl) rfl ?_
  refine pr_iconst (1) 7 dX9_isTrip_6 (by decide) rfl ?_
  refine pr_isub 8 dX9_isTrip_7 rfl ?_
  refine pr_ivsD3 11 dX9_isTrip_8 sX9_113 mX9_isIn (sp_isInM _ (by omega)) ⟨Nat.le_of_ble_eq_true rfl, Nat.le_of_ble_eq_true rfl⟩ (Nat.le_of_ble_eq_true rfl) rfl ?_
  refine pr_zreturn dX9_isTrip_11 rfl (vb01 _ _) ?_
  exact ⟨rfl, rfl⟩
theorem sp_X9_direct_now (h : rowR 20869371 mem K) (hW : WF K) {a b : Nat} (ha : a < K 37) (hb : b < K 37) : Cd yX9_directOf cX9_directOf 5 (some .int) 0 0 [pR 20869371 0, pI (nI a), pI (nI b)] mem (some (pI (nI (dd K a b)))) mem :=
  sp_direct_now h a b (by have := hW.2.1; omega) (by have := hW.2.1; omega) (hW.2.2.2.2.2.2.1 a (by have := hW.2.1; omega)) (hW.2.2.2.2.2.2.1 b (by have := hW.2.1; omega))
set_option maxRecDepth 100000 in
theorem sp_X9_direct (h : rowR 20869371 mem0 K) (hW : WF K) (a b : Int32) : Cl yX9_direct cX9_direct 3 (some .int) 2 43 [pR 10009909 0, pI a, pI b] mem0 (mqP mem0 (q_direct K a b) 0) := by
  have h12 := hW.2.1
  have h1 : rowR 20869371 (mq1 mem0 0) K := h.q1
  refine Cl.of (own := RX9) rfl rfl (Nat.le_of_ble_eq_true rfl) rfl ?_; show PR _ _ _ _ _ _ [some _, some _, some _] _ _ _
  rcases ha : vix a (K 37) with _ | i
  · refine pr_aload_n 1 dX9_direct_0 rfl rfl rfl ?_
    refine pr_iconst (0) 2 dX9_direct_1 (by decide) rfl ?_
    refine pr_putI 5 dX9_direct_2 fX9_1 rfl ?_
    refine pr_aload_n 6 dX9_direct_5 rfl rfl rfl ?_
    refine pr_iload_n 7 dX9_direct_6 rfl rfl rfl ?_
    refine pr_invD1 10 dX9_direct_7 vX9_246 mX9_isPlace (sp_X9_isPlace h1 hW _) ⟨Nat.le_of_ble_eq_true rfl, Nat.le_of_ble_eq_true rfl⟩ (Nat.le_of_ble_eq_true rfl) rfl ?_
    refine pr_if_eq 33 13 dX9_direct_10 rfl rfl (fun c_10 => ?_) (fun c_10 => absurd (vb_n ha) (c_10))
    refine pr_iconst (-1) 34 dX9_direct_33 (by decide) rfl ?_
    refine pr_ireturn dX9_direct_34 rfl ?_
    rw [show q_direct K a b = -1 by simp [q_direct, ha]]
    exact mqP.q1
  · rcases hb : vix b (K 37) with _ | j
    · refine pr_aload_n 1 dX9_direct_0 rfl rfl rfl ?_
      refine pr_iconst (0) 2 dX9_direct_1 (by decide) rfl ?_
      refine pr_putI 5 dX9_direct_2 fX9_1 rfl ?_
      refine pr_aload_n 6 dX9_direct_5 rfl rfl rfl ?_
      refine pr_iload_n 7 dX9_direct_6 rfl rfl rfl ?_
      refine pr_invD1 10 dX9_direct_7 vX9_246 mX9_isPlace (sp_X9_isPlace h1 hW _) ⟨Nat.le_of_ble_eq_true rfl, Nat.le_of_ble_eq_true rfl⟩ (Nat.le_of_ble_eq_true rfl) rfl ?_
      refine pr_if_eq 33 13 dX9_direct_10 rfl rfl (fun c_10 => absurd (c_10) (vb_s ha)) (fun c_10 => ?_)
      refine pr_aload_n 14 dX9_direct_13 rfl rfl rfl ?_
      refine pr_iload_n 15 dX9_direct_14 rfl rfl rfl ?_
      refine pr_invD1 18 dX9_direct_15 vX9_246 mX9_isPlace (sp_X9_isPlace h1 hW _) ⟨Nat.le_of_ble_eq_true rfl, Nat.le_of_ble_eq_true rfl⟩ (Nat.le_of_ble_eq_true rfl) rfl ?_
      refine pr_if_eq 33 21 dX9_direct_18 rfl rfl (fun c_18 => ?_) (fun c_18 => absurd (vb_n hb) (c_18))
      refine pr_iconst (-1) 34 dX9_direct_33 (by decide) rfl ?_
      refine pr_ireturn dX9_direct_34 rfl ?_
      rw [show q_direct K a b = -1 by simp [q_direct, ha, hb]]
      exact mqP.q1
    · obtain ⟨rfl, hi⟩ := vix_some (by omega) ha
      obtain ⟨rfl, hj⟩ := vix_some (by omega) hb
      refine pr_aload_n 1 dX9_direct_0 rfl rfl rfl ?_
      refine pr_iconst (0) 2 dX9_direct_1 (by decide) rfl ?_
      refine pr_putI 5 dX9_direct_2 fX9_1 rfl ?_
      refine pr_aload_n 6 dX9_direct_5 rfl rfl rfl ?_
      refine pr_iload_n 7 dX9_direct_6 rfl rfl rfl ?_
      refine pr_invD1 10 dX9_direct_7 vX9_246 mX9_isPlace (sp_X9_isPlace h1 hW _) ⟨Nat.le_of_ble_eq_true rfl, Nat.le_of_ble_eq_true rfl⟩ (Nat.le_of_ble_eq_true rfl) rfl ?_
      refine pr_if_eq 33 13 dX9_direct_10 rfl rfl (fun c_10 => absurd (c_10) (vb_s ha)) (fun c_10 => ?_)
      refine pr_aload_n 14 dX9_direct_13 rfl rfl rfl ?_
      refine pr_iload_n 15 dX9_direct_14 rfl rfl rfl ?_
      refine pr_invD1 18 dX9_direct_15 vX9_246 mX9_isPlace (sp_X9_isPlace h1 hW _) ⟨Nat.le_of_ble_eq_true rfl, Nat.le_of_ble_eq_true rfl⟩ (Nat.le_of_ble_eq_true rfl) rfl ?_
      refine pr_if_eq 33 21 dX9_direct_18 rfl rfl (fun c_18 => absurd (c_18) (vb_s hb)) (fun c_18 => ?_)
      refine pr_aload_n 22 dX9_direct_21 rfl rfl rfl ?_
      refine pr_getR0 25 dX9_direct_22 fX9_64 rfl ?_
      refine pr_iload_n 26 dX9_direct_25 rfl rfl rfl ?_
      refine pr_iload_n 27 dX9_direct_26 rfl rfl rfl ?_
      refine pr_ivsD3 30 dX9_direct_27 sX9_128 mX9_directOf (sp_X9_direct_now h1 hW hi hj) ⟨Nat.le_of_ble_eq_true rfl, Nat.le_of_ble_eq_true rfl⟩ (Nat.le_of_ble_eq_true rfl) rfl ?_
      refine pr_goto 34 dX9_direct_30 rfl ?_
      refine pr_ireturn dX9_direct_34 rfl ?_
      rw [show q_direct K (nI i) (nI j) = nI (dd K i j) by simp [q_direct, ha, hb]]
      exact mqP.q1
theorem ix_way (a b : Nat) : (709 : Int32) + 12 * nI a + nI b = nI (709 + 12 * a + b) := by
  rw [← nI_add, ← nI_add, ← nI_mulN]; rfl
set_option maxRecDepth 100000 in
theorem sp_X9_way (h : rowR 20869371 mem0 K) (hW : WF K) (a b : Int32) : Cl yX9_way cX9_way 3 (some .int) 2 43 [pR 10009909 0, pI a, pI b] mem0 (mqP mem0 (q_way K a b) 0) := by
  have h12 := hW.2.1
  have h1 : rowR 20869371 (mq1 mem0 0) K := h.q1
  refine Cl.of (own := RX9) rfl rfl (Nat.le_of_ble_eq_true rfl) rfl ?_; show PR _ _ _ _ _ _ [some _, some _, some _] _ _ _
  rcases ha : vix a (K 37) with _ | i
  · refine pr_aload_n 1 dX9_way_0 rfl rfl rfl ?_
    refine pr_iconst (0) 2 dX9_way_1 (by decide) rfl ?_
    refine pr_putI 5 dX9_way_2 fX9_1 rfl ?_
    refine pr_aload_n 6 dX9_way_5 rfl rfl rfl ?_
    refine pr_iload_n 7 dX9_way_6 rfl rfl rfl ?_
    refine pr_invD1 10 dX9_way_7 vX9_246 mX9_isPlace (sp_X9_isPlace h1 hW _) ⟨Nat.le_of_ble_eq_true rfl, Nat.le_of_ble_eq_true rfl⟩ (Nat.le_of_ble_eq_true rfl) rfl ?_
    refine pr_if_eq 44 13 dX9_way_10 rfl rfl (fun c_10 => ?_) (fun c_10 => absurd (vb_n ha) (c_10))
    refine pr_iconst (-1) 45 dX9_way_44 (by decide) rfl ?_
    refine pr_ireturn dX9_way_45 rfl ?_
    rw [show q_way K a b = -1 by simp [q_way, ha]]
    exact mqP.q1
  · rcases hb : vix b (K 37) with _ | j
    · refine pr_aload_n 1 dX9_way_0 rfl rfl rfl ?_
      refine pr_iconst (0) 2 dX9_way_1 (by decide) rfl ?_
      refine pr_putI 5 dX9_way_2 fX9_1 rfl ?_
      refine pr_aload_n 6 dX9_way_5 rfl rfl rfl ?_
      refine pr_iload_n 7 dX9_way_6 rfl rfl rfl ?_
      refine pr_invD1 10 dX9_way_7 vX9_246 mX9_isPlace (sp_X9_isPlace h1 hW _) ⟨Nat.le_of_ble_eq_true rfl, Nat.le_of_ble_eq_true rfl⟩ (Nat.le_of_ble_eq_true rfl) rfl ?_
      refine pr_if_eq 44 13 dX9_way_10 rfl rfl (fun c_10 => absurd (c_10) (vb_s ha)) (fun c_10 => ?_)
      refine pr_aload_n 14 dX9_way_13 rfl rfl rfl ?_
      refine pr_iload_n 15 dX9_way_14 rfl rfl rfl ?_
      refine pr_invD1 18 dX9_way_15 vX9_246 mX9_isPlace (sp_X9_isPlace h1 hW _) ⟨Nat.le_of_ble_eq_true rfl, Nat.le_of_ble_eq_true rfl⟩ (Nat.le_of_ble_eq_true rfl) rfl ?_
      refine pr_if_eq 44 21 dX9_way_18 rfl rfl (fun c_18 => ?_) (fun c_18 => absurd (vb_n hb) (c_18))
      refine pr_iconst (-1) 45 dX9_way_44 (by decide) rfl ?_
      refine pr_ireturn dX9_way_45 rfl ?_
      rw [show q_way K a b = -1 by simp [q_way, ha, hb]]
      exact mqP.q1
    · obtain ⟨rfl, hi⟩ := vix_some (by omega) ha
      obtain ⟨rfl, hj⟩ := vix_some (by omega) hb
      by_cases e : i = j
      · refine pr_aload_n 1 dX9_way_0 rfl rfl rfl ?_
        refine pr_iconst (0) 2 dX9_way_1 (by decide) rfl ?_
        refine pr_putI 5 dX9_way_2 fX9_1 rfl ?_
        refine pr_aload_n 6 dX9_way_5 rfl rfl rfl ?_
        refine pr_iload_n 7 dX9_way_6 rfl rfl rfl ?_
        refine pr_invD1 10 dX9_way_7 vX9_246 mX9_isPlace (sp_X9_isPlace h1 hW _) ⟨Nat.le_of_ble_eq_true rfl, Nat.le_of_ble_eq_true rfl⟩ (Nat.le_of_ble_eq_true rfl) rfl ?_
        refine pr_if_eq 44 13 dX9_way_10 rfl rfl (fun c_10 => absurd (c_10) (vb_s ha)) (fun c_10 => ?_)
        refine pr_aload_n 14 dX9_way_13 rfl rfl rfl ?_
        refine pr_iload_n 15 dX9_way_14 rfl rfl rfl ?_
        refine pr_invD1 18 dX9_way_15 vX9_246 mX9_isPlace (sp_X9_isPlace h1 hW _) ⟨Nat.le_of_ble_eq_true rfl, Nat.le_of_ble_eq_true rfl⟩ (Nat.le_of_ble_eq_true rfl) rfl ?_
        refine pr_if_eq 44 21 dX9_way_18 rfl rfl (fun c_18 => absurd (c_18) (vb_s hb)) (fun c_18 => ?_)
        refine pr_iload_n 22 dX9_way_21 rfl rfl rfl ?_
        refine pr_iload_n 23 dX9_way_22 rfl rfl rfl ?_
        refine pr_icmp_eq 44 26 dX9_way_23 rfl rfl (fun c_23 => ?_) (fun c_23 => absurd (congrArg nI e) (c_23))
        refine pr_iconst (-1) 45 dX9_way_44 (by decide) rfl ?_
        refine pr_ireturn dX9_way_45 rfl ?_
        rw [show q_way K (nI i) (nI j) = -1 by simp [q_way, ha, hb, e]]
        exact mqP.q1
      · refine pr_aload_n 1 dX9_way_0 rfl rfl rfl ?_
        refine pr_iconst (0) 2 dX9_way_1 (by decide) rfl ?_
        refine pr_putI 5 dX9_way_2 fX9_1 rfl ?_
        refine pr_aload_n 6 dX9_way_5 rfl rfl rfl ?_
        refine pr_iload_n 7 dX9_way_6 rfl rfl rfl ?_
        refine pr_invD1 10 dX9_way_7 vX9_246 mX9_isPlace (sp_X9_isPlace h1 hW _) ⟨Nat.le_of_ble_eq_true rfl, Nat.le_of_ble_eq_true rfl⟩ (Nat.le_of_ble_eq_true rfl) rfl ?_
        refine pr_if_eq 44 13 dX9_way_10 rfl rfl (fun c_10 => absurd (c_10) (vb_s ha)) (fun c_10 => ?_)
        refine pr_aload_n 14 dX9_way_13 rfl rfl rfl ?_
        refine pr_iload_n 15 dX9_way_14 rfl rfl rfl ?_
        refine pr_invD1 18 dX9_way_15 vX9_246 mX9_isPlace (sp_X9_isPlace h1 hW _) ⟨Nat.le_of_ble_eq_true rfl, Nat.le_of_ble_eq_true rfl⟩ (Nat.le_of_ble_eq_true rfl) rfl ?_
        refine pr_if_eq 44 21 dX9_way_18 rfl rfl (fun c_18 => absurd (c_18) (vb_s hb)) (fun c_18 => ?_)
        refine pr_iload_n 22 dX9_way_21 rfl rfl rfl ?_
        refine pr_iload_n 23 dX9_way_22 rfl rfl rfl ?_
        refine pr_icmp_eq 44 26 dX9_way_23 rfl rfl (fun c_23 => absurd (c_23) (fun z => e ((nI_eq (by omega) (by omega)).mp z))) (fun c_23 => ?_)
        refine pr_aload_n 27 dX9_way_26 rfl rfl rfl ?_
        refine pr_getR0 30 dX9_way_27 fX9_64 rfl ?_
        refine pr_sipush (709) 33 dX9_way_30 (by decide) rfl ?_
        refine pr_bipush (12) 35 dX9_way_33 (by decide) rfl ?_
        refine pr_iload_n 36 dX9_way_35 rfl rfl rfl ?_
        refine pr_imul 37 dX9_way_36 rfl ?_
        refine pr_iadd 38 dX9_way_37 rfl ?_
        refine pr_iload_n 39 dX9_way_38 rfl rfl rfl ?_
        refine pr_iadd 40 dX9_way_39 rfl ?_
        refine pr_iaload (709 + 12 * i + j) 41 dX9_way_40 rfl rfl (ix_way i j) (by omega) rfl ?_
        rw [h1.1 _ (by omega) (by omega)]
        refine pr_goto 45 dX9_way_41 rfl ?_
        refine pr_ireturn dX9_way_45 rfl ?_
        rw [show q_way K (nI i) (nI j) = nI (K (709 + 12 * i + j)) by simp [q_way, ha, hb, e]]
        exact mqP.q1
set_option maxRecDepth 100000 in
theorem sp_X9_hub (h : rowR 20869371 mem0 K) (hW : WF K) (p : Int32) : Cl yX9_hub cX9_hub 2 (some .int) 2 48 [pR 10009909 0, pI p] mem0 (mqP mem0 (q_hub K p) 0) := by
  have h12 := hW.2.1
  have h1 : rowR 20869371 (mq1 mem0 0) K := h.q1
  refine Cl.of (own := RX9) rfl rfl (Nat.le_of_ble_eq_true rfl) rfl ?_; show PR _ _ _ _ _ _ [some _, some _] _ _ _
  rcases ha : vix p (K 37) with _ | i
  · refine pr_aload_n 1 dX9_hub_0 rfl rfl rfl ?_
    refine pr_iconst (0) 2 dX9_hub_1 (by decide) rfl ?_
    refine pr_putI 5 dX9_hub_2 fX9_1 rfl ?_
    refine pr_aload_n 6 dX9_hub_5 rfl rfl rfl ?_
    refine pr_iload_n 7 dX9_hub_6 rfl rfl rfl ?_
    refine pr_invD1 10 dX9_hub_7 vX9_246 mX9_isPlace (sp_X9_isPlace h1 hW _) ⟨Nat.le_of_ble_eq_true rfl, Nat.le_of_ble_eq_true rfl⟩ (Nat.le_of_ble_eq_true rfl) rfl ?_
    refine pr_if_eq 22 13 dX9_hub_10 rfl rfl (fun c_10 => ?_) (fun c_10 => absurd (vb_n ha) (c_10))
    refine pr_iconst (-1) 23 dX9_hub_22 (by decide) rfl ?_
    refine pr_ireturn dX9_hub_23 rfl ?_
    rw [show q_hub K p = -1 by simp [q_hub, ha]]
    exact mqP.q1
  · obtain ⟨rfl, hi⟩ := vix_some (by omega) ha
    refine pr_aload_n 1 dX9_hub_0 rfl rfl rfl ?_
    refine pr_iconst (0) 2 dX9_hub_1 (by decide) rfl ?_
    refine pr_putI 5 dX9_hub_2 fX9_1 rfl ?_
    refine pr_aload_n 6 dX9_hub_5 rfl rfl rfl ?_
    refine pr_iload_n 7 dX9_hub_6 rfl rfl rfl ?_
    refine pr_invD1 10 dX9_hub_7 vX9_246 mX9_isPlace (sp_X9_isPlace h1 hW _) ⟨Nat.le_of_ble_eq_true rfl, Nat.le_of_ble_eq_true rfl⟩ (Nat.le_of_ble_eq_true rfl) rfl ?_
    refine pr_if_eq 22 13 dX9_hub_10 rfl rfl (fun c_10 => absurd (c_10) (vb_s ha)) (fun c_10 => ?_)
    refine pr_aload_n 14 dX9_hub_13 rfl rfl rfl ?_
    refine pr_iload_n 15 dX9_hub_14 rfl rfl rfl ?_
    refine pr_iconst (1) 16 dX9_hub_15 (by decide) rfl ?_
    refine pr_invD2 19 dX9_hub_16 vX9_233 mX9_changed (sp_X9_changed h1 hW (p := i) (by omega) true) ⟨Nat.le_of_ble_eq_true rfl, Nat.le_of_ble_eq_true rfl⟩ (Nat.le_of_ble_eq_true rfl) rfl ?_
    refine pr_goto 23 dX9_hub_19 rfl ?_
    refine pr_ireturn dX9_hub_23 rfl ?_
    rw [show q_hub K (nI i) = nI (chs K true i (K 39)) by simp [q_hub, ha]]
    exact mqP.q1
set_option maxRecDepth 100000 in
theorem sp_X9_busiest (h : rowR 20869371 mem0 K) (hZ : WZ K) : Cl yX9_busiest cX9_busiest 3 (some .int) 0 0 [pR 10009909 0] mem0 (mqP mem0 (bzI (bz K 144)) 0) := by
  have h1 : rowR 20869371 (mq1 mem0 0) K := h.q1
  have lp : ∀ j k, k + j = 144 → PR cX9_busiest RX9 3 0 0 9 [some (pR 10009909 0), some (pI (onI (bz K k))), some (pI (nI k))] [] (mq1 mem0 0) (pm_RX cX9_busiest (some .int) (mqP mem0 (bzI (bz K 144)) 0)) := by
    intro j
    induction j with
    | zero =>
      intro k hj
      have e : k = 144 := by omega
      subst e
      rcases hb : bz K 144 with _ | b
      · refine pr_iload_n 10 dX9_busiest_9 rfl rfl rfl ?_
        refine pr_sipush (144) 13 dX9_busiest_10 (by decide) rfl ?_
        refine pr_icmp_ge 65 16 dX9_busiest_13 rfl rfl (fun c_13 => ?_) (fun c_13 => absurd (by decide) (c_13))
        refine pr_iload_n 66 dX9_busiest_65 rfl rfl rfl ?_
        refine pr_iconst (-1) 67 dX9_busiest_66 (by decide) rfl ?_
        refine pr_icmp_ne 74 70 dX9_busiest_67 rfl rfl (fun c_67 => absurd (rfl) (c_67)) (fun c_67 => ?_)
        refine pr_iconst (-1) 71 dX9_busiest_70 (by decide) rfl ?_
        refine pr_goto 86 dX9_busiest_71 rfl ?_
        refine pr_ireturn dX9_busiest_86 rfl ?_
        exact mqP.q1
      · have hbt := bz_lt hb
        refine pr_iload_n 10 dX9_busiest_9 rfl rfl rfl ?_
        refine pr_sipush (144) 13 dX9_busiest_10 (by decide) rfl ?_
        refine pr_icmp_ge 65 16 dX9_busiest_13 rfl rfl (fun c_13 => ?_) (fun c_13 => absurd (by decide) (c_13))
        refine pr_iload_n 66 dX9_busiest_65 rfl rfl rfl ?_
        refine pr_iconst (-1) 67 dX9_busiest_66 (by decide) rfl ?_
        refine pr_icmp_ne 74 70 dX9_busiest_67 rfl rfl (fun c_67 => ?_) (fun c_67 => absurd (c_67) (nI_nm (by omega)))
        refine pr_bipush (100) 76 dX9_busiest_74 (by decide) rfl ?_
        refine pr_iload_n 77 dX9_busiest_76 rfl rfl rfl ?_
        refine pr_bipush (12) 79 dX9_busiest_77 (by decide) rfl ?_
        refine pr_idiv (by decide) 80 dX9_busiest_79 rfl ?_
        rw [show onI (some b) = nI b from rfl, show (12 : Int32) = nI 12 from rfl, nI_divN (by omega) (by omega)]
        refine pr_imul 81 dX9_busiest_80 rfl ?_
        rw [show (100 : Int32) = nI 100 from rfl, nI_mulN]
        refine pr_iload_n 82 dX9_busiest_81 rfl rfl rfl ?_
        refine pr_bipush (12) 84 dX9_busiest_82 (by decide) rfl ?_
        refine pr_irem (by decide) 85 dX9_busiest_84 rfl ?_
        rw [show (12 : Int32) = nI 12 from rfl, nI_divN (by omega) (by omega), nI_mulN, nI_subN (by omega), show b - b / 12 * 12 = b % 12 by omega]
        refine pr_iadd 86 dX9_busiest_85 rfl ?_
        rw [nI_add]
        refine pr_ireturn dX9_busiest_86 rfl ?_
        exact mqP.q1
    | succ j ih =>
      intro k hj
      have hI := ih (k + 1) (by omega)
      have hv := hZ.2.2 k (by omega)
      have hm := bzM_lt hZ (k := k) (by omega)
      refine pr_iload_n 10 dX9_busiest_9 rfl rfl rfl ?_
      refine pr_sipush (144) 13 dX9_busiest_10 (by decide) rfl ?_
      refine pr_icmp_ge 65 16 dX9_busiest_13 rfl rfl (fun c_13 => absurd (c_13) (nI_ge (b := 144) (by omega) (by omega))) (fun c_13 => ?_)
      refine pr_aload_n 17 dX9_busiest_16 rfl rfl rfl ?_
      refine pr_getR0 20 dX9_busiest_17 fX9_64 rfl ?_
      refine pr_sipush (709) 23 dX9_busiest_20 (by decide) rfl ?_
      refine pr_iload_n 24 dX9_busiest_23 rfl rfl rfl ?_
      refine pr_iadd 25 dX9_busiest_24 rfl ?_
      refine pr_iaload (709 + k) 26 dX9_busiest_25 rfl rfl (nI_add 709 k) (by omega) rfl ?_
      rw [h1.1 _ (by omega) (by omega)]
      refine pr_if_le 59 29 dX9_busiest_26 rfl rfl (fun c_26 => ?_) (fun c_26 => ?_)
      · have z : K (709 + k) = 0 := by
          rcases Nat.eq_zero_or_pos (K (709 + k)) with y | y
          · exact y
          · exact absurd c_26 (nI_nle y (by omega))
        rw [bz_0 z] at hI
        refine pr_iinc 62 dX9_busiest_59 rfl (by first | exact pm_inc _ | rfl) (pm_st_2 rfl rfl) rfl ?_
        refine pr_goto 9 dX9_busiest_62 rfl ?_
        exact hI
      · have z : 0 < K (709 + k) := by
          rcases Nat.eq_zero_or_pos (K (709 + k)) with y | y
          · exact absurd (by rw [y]; decide) c_26
          · exact y
        rcases hb : bz K k with _ | b
        · rw [bz, hb, if_pos (show bzM K none < _ from z)] at hI
          refine pr_iload_n 30 dX9_busiest_29 rfl rfl rfl ?_
          refine pr_iconst (-1) 31 dX9_busiest_30 (by decide) rfl ?_
          refine pr_icmp_eq 57 34 dX9_busiest_31 rfl rfl (fun c_31 => ?_) (fun c_31 => absurd (rfl) (c_31))
          refine pr_iload_n 58 dX9_busiest_57 rfl rfl rfl ?_
          refine pr_istore_n 59 dX9_busiest_58 rfl (pm_st_1 rfl rfl) rfl ?_
          refine pr_iinc 62 dX9_busiest_59 rfl (by first | exact pm_inc _ | rfl) (pm_st_2 rfl rfl) rfl ?_
          refine pr_goto 9 dX9_busiest_62 rfl ?_
          exact hI
        have hbt := bz_lt hb
        rw [hb] at hm
        have hm2 : K (709 + b) < 1000000 := hm
        refine pr_iload_n 30 dX9_busiest_29 rfl rfl rfl ?_
        refine pr_iconst (-1) 31 dX9_busiest_30 (by decide) rfl ?_
        refine pr_icmp_eq 57 34 dX9_busiest_31 rfl rfl (fun c_31 => absurd (c_31) (nI_nm (by omega))) (fun c_31 => ?_)
        refine pr_aload_n 35 dX9_busiest_34 rfl rfl rfl ?_
        refine pr_getR0 38 dX9_busiest_35 fX9_64 rfl ?_
        refine pr_sipush (709) 41 dX9_busiest_38 (by decide) rfl ?_
        refine pr_iload_n 42 dX9_busiest_41 rfl rfl rfl ?_
        refine pr_iadd 43 dX9_busiest_42 rfl ?_
        refine pr_iaload (709 + k) 44 dX9_busiest_43 rfl rfl (nI_add 709 k) (by omega) rfl ?_
        rw [h1.1 _ (by omega) (by omega)]
        refine pr_aload_n 45 dX9_busiest_44 rfl rfl rfl ?_
        refine pr_getR0 48 dX9_busiest_45 fX9_64 rfl ?_
        refine pr_sipush (709) 51 dX9_busiest_48 (by decide) rfl ?_
        refine pr_iload_n 52 dX9_busiest_51 rfl rfl rfl ?_
        refine pr_iadd 53 dX9_busiest_52 rfl ?_
        refine pr_iaload (709 + b) 54 dX9_busiest_53 rfl rfl (nI_add 709 b) (by omega) rfl ?_
        rw [h1.1 _ (by omega) (by omega)]
        refine pr_icmp_le 59 57 dX9_busiest_54 rfl rfl (fun c_54 => ?_) (fun c_54 => ?_)
        · rw [nI_leI (by omega) (by omega)] at c_54
          rw [bz, hb, if_neg (by show ¬ K (709 + b) < _; omega)] at hI
          refine pr_iinc 62 dX9_busiest_59 rfl (by first | exact pm_inc _ | rfl) (pm_st_2 rfl rfl) rfl ?_
          refine pr_goto 9 dX9_busiest_62 rfl ?_
          exact hI
        · rw [nI_leI (by omega) (by omega)] at c_54
          rw [bz, hb, if_pos (by show K (709 + b) < _; omega)] at hI
          refine pr_iload_n 58 dX9_busiest_57 rfl rfl rfl ?_
          refine pr_istore_n 59 dX9_busiest_58 rfl (pm_st_1 rfl rfl) rfl ?_
          refine pr_iinc 62 dX9_busiest_59 rfl (by first | exact pm_inc _ | rfl) (pm_st_2 rfl rfl) rfl ?_
          refine pr_goto 9 dX9_busiest_62 rfl ?_
          exact hI
  refine Cl.of (own := RX9) rfl rfl (Nat.le_of_ble_eq_true rfl) rfl ?_; show PR _ _ _ _ _ _ [some _, none, none] _ _ _
  refine pr_aload_n 1 dX9_busiest_0 rfl rfl rfl ?_
  refine pr_iconst (0) 2 dX9_busiest_1 (by decide) rfl ?_
  refine pr_putI 5 dX9_busiest_2 fX9_1 rfl ?_
  refine pr_iconst (-1) 6 dX9_busiest_5 (by decide) rfl ?_
  refine pr_istore_n 7 dX9_busiest_6 rfl (pm_st_1 rfl rfl) rfl ?_
  refine pr_iconst (0) 8 dX9_busiest_7 (by decide) rfl ?_
  refine pr_istore_n 9 dX9_busiest_8 rfl (pm_st_2 rfl rfl) rfl ?_
  exact lp 144 0 (by omega)

theorem sp_account_w (h : mwR mem (fun l => K (20 + l)) (fun l => l) (K 39) none) : mwR mem (aw K) ai (K 39) none := h
def maA (m0 m : pm_M) (K : Nat → Nat) : Prop := pm_fr sMQ m0 m ∧ mdQ m0 m ∧ mwR m (aw K) ai (K 39) none ∧ acM m K (aw K) ai (K 39)
theorem sMA_Q : ∀ t i, sMA t i → sMQ t i := fun t i h => ⟨by have := h.1; simp at this ⊢; omega, h.2⟩
theorem sMW_Q : ∀ t i, sMW t i → sMQ t i := fun t i h => ⟨by have := h.1; simp at this ⊢; omega, h.2⟩
theorem sMG_Q : ∀ t i, sMG t i → sMQ t i := fun t i h => ⟨by have := h.1; simp at this ⊢; omega, h.2⟩
theorem mdO.Q {m0 m : pm_M} (h : mdO m0 m) : mdQ m0 m := fun k _ _ c _ => h.1 k c
theorem mdW.Q {m0 m : pm_M} (h : mdW m0 m) : mdQ m0 m := fun k a b _ _ => h.1 k a b
theorem mdG.Q {m0 m : pm_M} (h : mdG m0 m) : mdQ m0 m := fun k _ _ _ d => h.1 k d
set_option maxRecDepth 100000 in
theorem sp_X9_account (h : rowR 20869371 mem0 K) (hW : WF K) : Cl yX9_account cX9_account 1 none 6 136 [pR 10009909 0] mem0 (fun r mem => r = none ∧ maA mem0 mem K) := by
  refine Cl.of (own := RX9) rfl rfl (Nat.le_of_ble_eq_true rfl) rfl ?_; show PR _ _ _ _ _ _ [some _] _ _ _
  refine pr_aload_n 1 dX9_account_0 rfl rfl rfl ?_
  refine pr_inv0R0 4 dX9_account_1 vX9_221 mX9_laysWeights (sp_X9_laysWeights h hW) ⟨Nat.le_of_ble_eq_true rfl, Nat.le_of_ble_eq_true rfl⟩ (Nat.le_of_ble_eq_true rfl) rfl (fun mem1 h1 => ?_)
  obtain ⟨f1, d1, w1, -⟩ := h1
  have r1 := h.fr f1 (by simp [sMW])
  refine pr_aload_n 5 dX9_account_4 rfl rfl rfl ?_
  refine pr_inv0R0 8 dX9_account_5 vX9_224 mX9_laysAccount (sp_X9_laysAccount r1 hW (WL0 hW) (sp_account_w w1) (fun l z => by cases z)) ⟨Nat.le_of_ble_eq_true rfl, Nat.le_of_ble_eq_true rfl⟩ (Nat.le_of_ble_eq_true rfl) rfl (fun mem2 h2 => ?_)
  refine pr_return dX9_account_8 rfl ?_
  obtain ⟨f2, d2, a2⟩ := h2
  exact ⟨rfl, (f1.mono sMW_Q).tr (f2.mono sMA_Q), d1.Q.tr d2.Q, (sp_account_w w1).fr f2 d2 (by simp [sMA]) (by simp [sMA]), a2⟩
end MF
