/-! the reference: share, dearest, split, without -/
section MP
variable {mem mem0 : pm_M} {K : Nat → Nat}
theorem ix_17 (t l : Nat) : (17 : Int32) * nI t + nI l = nI (17 * t + l) := by rw [← nI_add, ← nI_mulN]; rfl
set_option maxRecDepth 100000 in
theorem sp_X9_share (h : rowR 20869371 mem0 K) (hW : WF K) (t l : Int32) : Cl yX9_share cX9_share 3 (some .int) 7 156 [pR 10009909 0, pI t, pI l] mem0 (mqP mem0 (q_share K t l) 0) := by
  have hn16 := hW.2.2.2.1
  have h16 := hW.2.2.2.2.1
  have h1 : rowR 20869371 (mq1 mem0 0) K := h.q1
  refine Cl.of (own := RX9) rfl rfl (Nat.le_of_ble_eq_true rfl) rfl ?_; show PR _ _ _ _ _ _ [some _, some _, some _] _ _ _
  rcases hl : vix l (K 39) with _ | j
  · rw [show q_share K t l = -1 by simp [q_share, hl]]
    refine pr_aload_n 1 dX9_share_0 rfl rfl rfl ?_
    refine pr_iconst (0) 2 dX9_share_1 (by decide) rfl ?_
    refine pr_putI 5 dX9_share_2 fX9_1 rfl ?_
    refine pr_iload_n 6 dX9_share_5 rfl rfl rfl ?_
    refine pr_iconst (-1) 7 dX9_share_6 (by decide) rfl ?_
    refine pr_icmp_eq 18 10 dX9_share_7 rfl rfl (fun c_7 => ?_) (fun c_7 => ?_)
    · refine pr_aload_n 19 dX9_share_18 rfl rfl rfl ?_
      refine pr_iload_n 20 dX9_share_19 rfl rfl rfl ?_
      refine pr_invD1 23 dX9_share_20 vX9_256 mX9_isLoad (sp_X9_isLoad h1 hW _) ⟨Nat.le_of_ble_eq_true rfl, Nat.le_of_ble_eq_true rfl⟩ (Nat.le_of_ble_eq_true rfl) rfl ?_
      refine pr_if_ne 28 26 dX9_share_23 rfl rfl (fun c_23 => absurd (vb_n hl) (c_23)) (fun c_23 => ?_)
      refine pr_iconst (-1) 27 dX9_share_26 (by decide) rfl ?_
      refine pr_ireturn dX9_share_27 rfl ?_
      exact mqP.q1
    · refine pr_aload_n 11 dX9_share_10 rfl rfl rfl ?_
      refine pr_iload_n 12 dX9_share_11 rfl rfl rfl ?_
      refine pr_invD1 15 dX9_share_12 vX9_268 mX9_isTrip (sp_X9_isTrip h1 hW _) ⟨Nat.le_of_ble_eq_true rfl, Nat.le_of_ble_eq_true rfl⟩ (Nat.le_of_ble_eq_true rfl) rfl ?_
      refine pr_if_eq 26 18 dX9_share_15 rfl rfl (fun c_15 => ?_) (fun c_15 => ?_)
      · refine pr_iconst (-1) 27 dX9_share_26 (by decide) rfl ?_
        refine pr_ireturn dX9_share_27 rfl ?_
        exact mqP.q1
      · refine pr_aload_n 19 dX9_share_18 rfl rfl rfl ?_
        refine pr_iload_n 20 dX9_share_19 rfl rfl rfl ?_
        refine pr_invD1 23 dX9_share_20 vX9_256 mX9_isLoad (sp_X9_isLoad h1 hW _) ⟨Nat.le_of_ble_eq_true rfl, Nat.le_of_ble_eq_true rfl⟩ (Nat.le_of_ble_eq_true rfl) rfl ?_
        refine pr_if_ne 28 26 dX9_share_23 rfl rfl (fun c_23 => absurd (vb_n hl) (c_23)) (fun c_23 => ?_)
        refine pr_iconst (-1) 27 dX9_share_26 (by decide) rfl ?_
        refine pr_ireturn dX9_share_27 rfl ?_
        exact mqP.q1
  by_cases e : t = -1
  · have hq : q_share K t l = nI (ofo K (aw K) ai (K 39) j) := by simp [q_share, hl, e]
    rw [hq]
    obtain ⟨rfl, hj⟩ := vix_some (by omega) hl
    refine pr_aload_n 1 dX9_share_0 rfl rfl rfl ?_
    refine pr_iconst (0) 2 dX9_share_1 (by decide) rfl ?_
    refine pr_putI 5 dX9_share_2 fX9_1 rfl ?_
    refine pr_iload_n 6 dX9_share_5 rfl rfl rfl ?_
    refine pr_iconst (-1) 7 dX9_share_6 (by decide) rfl ?_
    refine pr_icmp_eq 18 10 dX9_share_7 rfl rfl (fun c_7 => ?_) (fun c_7 => absurd (e) (c_7))
    refine pr_aload_n 19 dX9_share_18 rfl rfl rfl ?_
    refine pr_iload_n 20 dX9_share_19 rfl rfl rfl ?_
    refine pr_invD1 23 dX9_share_20 vX9_256 mX9_isLoad (sp_X9_isLoad h1 hW _) ⟨Nat.le_of_ble_eq_true rfl, Nat.le_of_ble_eq_true rfl⟩ (Nat.le_of_ble_eq_true rfl) rfl ?_
    refine pr_if_ne 28 26 dX9_share_23 rfl rfl (fun c_23 => ?_) (fun c_23 => absurd (c_23) (vb_s hl))
    refine pr_aload_n 29 dX9_share_28 rfl rfl rfl ?_
    refine pr_inv0R0 32 dX9_share_29 vX9_237 mX9_account (sp_X9_account h1 hW) ⟨Nat.le_of_ble_eq_true rfl, Nat.le_of_ble_eq_true rfl⟩ (Nat.le_of_ble_eq_true rfl) rfl (fun mem2 h2 => ?_)
    obtain ⟨f2, d2, w2, a2⟩ := h2
    refine pr_aload_n 33 dX9_share_32 rfl rfl rfl ?_
    refine pr_getR0 36 dX9_share_33 fX9_91 rfl ?_
    refine pr_bipush (17) 38 dX9_share_36 (by decide) rfl ?_
    refine pr_iload_n 39 dX9_share_38 rfl rfl rfl ?_
    refine pr_iconst (-1) 40 dX9_share_39 (by decide) rfl ?_
    refine pr_icmp_ne 48 43 dX9_share_40 rfl rfl (fun c_40 => absurd (e) (c_40)) (fun c_40 => ?_)
    refine pr_bipush (16) 45 dX9_share_43 (by decide) rfl ?_
    refine pr_goto 49 dX9_share_45 rfl ?_
    refine pr_imul 50 dX9_share_49 rfl ?_
    refine pr_iload_n 51 dX9_share_50 rfl rfl rfl ?_
    refine pr_iadd 52 dX9_share_51 rfl ?_
    refine pr_iaload (17 * 16 + j) 53 dX9_share_52 rfl rfl (ix_17 16 j) (by omega) rfl ?_
    rw [(a2.2.2 j hj).1]
    refine pr_ireturn dX9_share_53 rfl ?_
    exact mqP.of f2 d2
  rcases ht : vix t (K 40) with _ | i
  · rw [show q_share K t l = -1 by simp [q_share, hl, e, ht]]
    refine pr_aload_n 1 dX9_share_0 rfl rfl rfl ?_
    refine pr_iconst (0) 2 dX9_share_1 (by decide) rfl ?_
    refine pr_putI 5 dX9_share_2 fX9_1 rfl ?_
    refine pr_iload_n 6 dX9_share_5 rfl rfl rfl ?_
    refine pr_iconst (-1) 7 dX9_share_6 (by decide) rfl ?_
    refine pr_icmp_eq 18 10 dX9_share_7 rfl rfl (fun c_7 => absurd (c_7) (e)) (fun c_7 => ?_)
    refine pr_aload_n 11 dX9_share_10 rfl rfl rfl ?_
    refine pr_iload_n 12 dX9_share_11 rfl rfl rfl ?_
    refine pr_invD1 15 dX9_share_12 vX9_268 mX9_isTrip (sp_X9_isTrip h1 hW _) ⟨Nat.le_of_ble_eq_true rfl, Nat.le_of_ble_eq_true rfl⟩ (Nat.le_of_ble_eq_true rfl) rfl ?_
    refine pr_if_eq 26 18 dX9_share_15 rfl rfl (fun c_15 => ?_) (fun c_15 => absurd (vb_n ht) (c_15))
    refine pr_iconst (-1) 27 dX9_share_26 (by decide) rfl ?_
    refine pr_ireturn dX9_share_27 rfl ?_
    exact mqP.q1
  have hq : q_share K t l = nI (oft K (aw K) ai (K 39) i j) := by simp [q_share, hl, e, ht]
  rw [hq]
  obtain ⟨rfl, hj⟩ := vix_some (by omega) hl
  obtain ⟨rfl, hi⟩ := vix_some (by omega) ht
  refine pr_aload_n 1 dX9_share_0 rfl rfl rfl ?_
  refine pr_iconst (0) 2 dX9_share_1 (by decide) rfl ?_
  refine pr_putI 5 dX9_share_2 fX9_1 rfl ?_
  refine pr_iload_n 6 dX9_share_5 rfl rfl rfl ?_
  refine pr_iconst (-1) 7 dX9_share_6 (by decide) rfl ?_
  refine pr_icmp_eq 18 10 dX9_share_7 rfl rfl (fun c_7 => absurd (c_7) (e)) (fun c_7 => ?_)
  refine pr_aload_n 11 dX9_share_10 rfl rfl rfl ?_
  refine pr_iload_n 12 dX9_share_11 rfl rfl rfl ?_
  refine pr_invD1 15 dX9_share_12 vX9_268 mX9_isTrip (sp_X9_isTrip h1 hW _) ⟨Nat.le_of_ble_eq_true rfl, Nat.le_of_ble_eq_true rfl⟩ (Nat.le_of_ble_eq_true rfl) rfl ?_
  refine pr_if_eq 26 18 dX9_share_15 rfl rfl (fun c_15 => absurd (c_15) (vb_s ht)) (fun c_15 => ?_)
  refine pr_aload_n 19 dX9_share_18 rfl rfl rfl ?_
  refine pr_iload_n 20 dX9_share_19 rfl rfl rfl ?_
  refine pr_invD1 23 dX9_share_20 vX9_256 mX9_isLoad (sp_X9_isLoad h1 hW _) ⟨Nat.le_of_ble_eq_true rfl, Nat.le_of_ble_eq_true rfl⟩ (Nat.le_of_ble_eq_true rfl) rfl ?_
  refine pr_if_ne 28 26 dX9_share_23 rfl rfl (fun c_23 => ?_) (fun c_23 => absurd (c_23) (vb_s hl))
  refine pr_aload_n 29 dX9_share_28 rfl rfl rfl ?_
  refine pr_inv0R0 32 dX9_share_29 vX9_237 mX9_account (sp_X9_account h1 hW) ⟨Nat.le_of_ble_eq_true rfl, Nat.le_of_ble_eq_true rfl⟩ (Nat.le_of_ble_eq_true rfl) rfl (fun mem2 h2 => ?_)
  obtain ⟨f2, d2, w2, a2⟩ := h2
  refine pr_aload_n 33 dX9_share_32 rfl rfl rfl ?_
  refine pr_getR0 36 dX9_share_33 fX9_91 rfl ?_
  refine pr_bipush (17) 38 dX9_share_36 (by decide) rfl ?_
  refine pr_iload_n 39 dX9_share_38 rfl rfl rfl ?_
  refine pr_iconst (-1) 40 dX9_share_39 (by decide) rfl ?_
  refine pr_icmp_ne 48 43 dX9_share_40 rfl rfl (fun c_40 => ?_) (fun c_40 => absurd (c_40) (e))
  refine pr_iload_n 49 dX9_share_48 rfl rfl rfl ?_
  refine pr_imul 50 dX9_share_49 rfl ?_
  refine pr_iload_n 51 dX9_share_50 rfl rfl rfl ?_
  refine pr_iadd 52 dX9_share_51 rfl ?_
  refine pr_iaload (17 * i + j) 53 dX9_share_52 rfl rfl (ix_17 i j) (by omega) rfl ?_
  rw [(a2.1 i hi).2.2.2 j hj]
  refine pr_ireturn dX9_share_53 rfl ?_
  exact mqP.of f2 d2
set_option maxRecDepth 100000 in
theorem sp_X9_dearest (h : rowR 20869371 mem0 K) (hW : WF K) : Cl yX9_dearest cX9_dearest 3 (some .int) 7 156 [pR 10009909 0] mem0 (mqP mem0 (onI (drs K (K 40))) 0) := by
  have h16 := hW.2.2.2.2.1
  have h1 : rowR 20869371 (mq1 mem0 0) K := h.q1
  have lp : ∀ mem2, maA (mq1 mem0 0) mem2 K → ∀ j t, t + j = K 40 → PR cX9_dearest RX9 3 7 156 13 [some (pR 10009909 0), some (pI (onI (drs K t))), some (pI (nI t))] [] mem2 (pm_RX cX9_dearest (some .int) (mqP mem0 (onI (drs K (K 40))) 0)) := by
    intro mem2 h2 j
    obtain ⟨f2, d2, w2, a2⟩ := h2
    have r2 := h1.fr f2 (by simp [sMQ])
    have oz : outZ (aw K) (K 39) none := fun l z => by cases z
    induction j with
    | zero =>
      intro t hj
      have e : t = K 40 := by omega
      subst e
      refine pr_iload_n 14 dX9_dearest_13 rfl rfl rfl ?_
      refine pr_aload_n 15 dX9_dearest_14 rfl rfl rfl ?_
      refine pr_invD0 18 dX9_dearest_15 vX9_173 mX9_trips (sp_X9_trips r2) ⟨Nat.le_of_ble_eq_true rfl, Nat.le_of_ble_eq_true rfl⟩ (Nat.le_of_ble_eq_true rfl) rfl ?_
      refine pr_icmp_ge 72 21 dX9_dearest_18 rfl rfl (fun c_18 => ?_) (fun c_18 => absurd (Int32.le_refl _) (c_18))
      refine pr_iload_n 73 dX9_dearest_72 rfl rfl rfl ?_
      refine pr_ireturn dX9_dearest_73 rfl ?_
      exact mqP.of f2 d2
    | succ j ih =>
      intro t hj
      have ht : t < K 40 := by omega
      have hI2 := ih (t + 1) (by omega)
      by_cases hid : idl K (aw K) ai (K 39) t = true
      · rw [drs, if_pos hid] at hI2
        refine pr_iload_n 14 dX9_dearest_13 rfl rfl rfl ?_
        refine pr_aload_n 15 dX9_dearest_14 rfl rfl rfl ?_
        refine pr_invD0 18 dX9_dearest_15 vX9_173 mX9_trips (sp_X9_trips r2) ⟨Nat.le_of_ble_eq_true rfl, Nat.le_of_ble_eq_true rfl⟩ (Nat.le_of_ble_eq_true rfl) rfl ?_
        refine pr_icmp_ge 72 21 dX9_dearest_18 rfl rfl (fun c_18 => absurd (c_18) (nI_ge (by omega) (by omega))) (fun c_18 => ?_)
        refine pr_aload_n 22 dX9_dearest_21 rfl rfl rfl ?_
        refine pr_iload_n 23 dX9_dearest_22 rfl rfl rfl ?_
        refine pr_invD1 26 dX9_dearest_23 vX9_206 mX9_isIdle (sp_X9_isIdle r2 hW (WL0 hW) w2 oz ht) ⟨Nat.le_of_ble_eq_true rfl, Nat.le_of_ble_eq_true rfl⟩ (Nat.le_of_ble_eq_true rfl) rfl ?_
        refine pr_if_ne 66 29 dX9_dearest_26 rfl rfl (fun c_26 => ?_) (fun c_26 => absurd (c_26) (by rw [if_pos hid]; decide))
        refine pr_iinc 69 dX9_dearest_66 rfl (by first | exact pm_inc _ | rfl) (pm_st_2 rfl rfl) rfl ?_
        refine pr_goto 13 dX9_dearest_69 rfl ?_
        exact hI2
      · rw [drs, if_neg hid] at hI2
        rcases hb : drs K t with _ | b
        · rw [hb] at hI2
          refine pr_iload_n 14 dX9_dearest_13 rfl rfl rfl ?_
          refine pr_aload_n 15 dX9_dearest_14 rfl rfl rfl ?_
          refine pr_invD0 18 dX9_dearest_15 vX9_173 mX9_trips (sp_X9_trips r2) ⟨Nat.le_of_ble_eq_true rfl, Nat.le_of_ble_eq_true rfl⟩ (Nat.le_of_ble_eq_true rfl) rfl ?_
          refine pr_icmp_ge 72 21 dX9_dearest_18 rfl rfl (fun c_18 => absurd (c_18) (nI_ge (by omega) (by omega))) (fun c_18 => ?_)
          refine pr_aload_n 22 dX9_dearest_21 rfl rfl rfl ?_
          refine pr_iload_n 23 dX9_dearest_22 rfl rfl rfl ?_
          refine pr_invD1 26 dX9_dearest_23 vX9_206 mX9_isIdle (sp_X9_isIdle r2 hW (WL0 hW) w2 oz ht) ⟨Nat.le_of_ble_eq_true rfl, Nat.le_of_ble_eq_true rfl⟩ (Nat.le_of_ble_eq_true rfl) rfl ?_
          refine pr_if_ne 66 29 dX9_dearest_26 rfl rfl (fun c_26 => absurd (by rw [if_neg hid]) (c_26)) (fun c_26 => ?_)
          refine pr_iload_n 30 dX9_dearest_29 rfl rfl rfl ?_
          refine pr_iconst (-1) 31 dX9_dearest_30 (by decide) rfl ?_
          refine pr_icmp_eq 64 34 dX9_dearest_31 rfl rfl (fun c_31 => ?_) (fun c_31 => absurd (rfl) (c_31))
          refine pr_iload_n 65 dX9_dearest_64 rfl rfl rfl ?_
          refine pr_istore_n 66 dX9_dearest_65 rfl (pm_st_1 rfl rfl) rfl ?_
          refine pr_iinc 69 dX9_dearest_66 rfl (by first | exact pm_inc _ | rfl) (pm_st_2 rfl rfl) rfl ?_
          refine pr_goto 13 dX9_dearest_69 rfl ?_
          exact hI2
        · rw [hb] at hI2
          have hbt := drs_lt hb
          dsimp only at hI2
          have a1 := gvn_le hW (w := aw K) (lk := ai) (K 39) t
          have b1 := gvn_le hW (w := aw K) (lk := ai) (K 39) b
          have a3 := pts_le hW (WL0 hW) ht
          have a4 := pts_le hW (WL0 hW) (t := b) (by omega)
          have m1 : gvn K (aw K) ai (K 39) b * pts K (aw K) ai (K 39) t ≤ 319968 * 313632 := Nat.mul_le_mul b1 a3
          have m2 : gvn K (aw K) ai (K 39) t * pts K (aw K) ai (K 39) b ≤ 319968 * 313632 := Nat.mul_le_mul a1 a4
          refine pr_iload_n 14 dX9_dearest_13 rfl rfl rfl ?_
          refine pr_aload_n 15 dX9_dearest_14 rfl rfl rfl ?_
          refine pr_invD0 18 dX9_dearest_15 vX9_173 mX9_trips (sp_X9_trips r2) ⟨Nat.le_of_ble_eq_true rfl, Nat.le_of_ble_eq_true rfl⟩ (Nat.le_of_ble_eq_true rfl) rfl ?_
          refine pr_icmp_ge 72 21 dX9_dearest_18 rfl rfl (fun c_18 => absurd (c_18) (nI_ge (by omega) (by omega))) (fun c_18 => ?_)
          refine pr_aload_n 22 dX9_dearest_21 rfl rfl rfl ?_
          refine pr_iload_n 23 dX9_dearest_22 rfl rfl rfl ?_
          refine pr_invD1 26 dX9_dearest_23 vX9_206 mX9_isIdle (sp_X9_isIdle r2 hW (WL0 hW) w2 oz ht) ⟨Nat.le_of_ble_eq_true rfl, Nat.le_of_ble_eq_true rfl⟩ (Nat.le_of_ble_eq_true rfl) rfl ?_
          refine pr_if_ne 66 29 dX9_dearest_26 rfl rfl (fun c_26 => absurd (by rw [if_neg hid]) (c_26)) (fun c_26 => ?_)
          refine pr_iload_n 30 dX9_dearest_29 rfl rfl rfl ?_
          refine pr_iconst (-1) 31 dX9_dearest_30 (by decide) rfl ?_
          refine pr_icmp_eq 64 34 dX9_dearest_31 rfl rfl (fun c_31 => absurd (c_31) (nI_nm (by omega))) (fun c_31 => ?_)
          refine pr_aload_n 35 dX9_dearest_34 rfl rfl rfl ?_
          refine pr_getR0 38 dX9_dearest_35 fX9_82 rfl ?_
          refine pr_iload_n 39 dX9_dearest_38 rfl rfl rfl ?_
          refine pr_iaload t 40 dX9_dearest_39 rfl rfl rfl (by omega) rfl ?_
          rw [(a2.1 t ht).2.2.1]
          refine pr_i2l 41 dX9_dearest_40 rfl ?_
          rw [nI_l (by omega)]
          refine pr_aload_n 42 dX9_dearest_41 rfl rfl rfl ?_
          refine pr_iload_n 43 dX9_dearest_42 rfl rfl rfl ?_
          refine pr_invD1 46 dX9_dearest_43 vX9_202 mX9_partsOf (sp_X9_partsOf r2 hW (WL0 hW) w2 oz (t := b) (by omega)) ⟨Nat.le_of_ble_eq_true rfl, Nat.le_of_ble_eq_true rfl⟩ (Nat.le_of_ble_eq_true rfl) rfl ?_
          refine pr_lmul 47 dX9_dearest_46 rfl ?_
          rw [lN_mul]
          refine pr_aload_n 48 dX9_dearest_47 rfl rfl rfl ?_
          refine pr_getR0 51 dX9_dearest_48 fX9_82 rfl ?_
          refine pr_iload_n 52 dX9_dearest_51 rfl rfl rfl ?_
          refine pr_iaload b 53 dX9_dearest_52 rfl rfl rfl (by omega) rfl ?_
          rw [(a2.1 b (by omega)).2.2.1]
          refine pr_i2l 54 dX9_dearest_53 rfl ?_
          rw [nI_l (by omega)]
          refine pr_aload_n 55 dX9_dearest_54 rfl rfl rfl ?_
          refine pr_iload_n 56 dX9_dearest_55 rfl rfl rfl ?_
          refine pr_invD1 59 dX9_dearest_56 vX9_202 mX9_partsOf (sp_X9_partsOf r2 hW (WL0 hW) w2 oz ht) ⟨Nat.le_of_ble_eq_true rfl, Nat.le_of_ble_eq_true rfl⟩ (Nat.le_of_ble_eq_true rfl) rfl ?_
          refine pr_lmul 60 dX9_dearest_59 rfl ?_
          rw [lN_mul]
          refine pr_lcmp 61 dX9_dearest_60 rfl ?_
          refine pr_if_le 66 64 dX9_dearest_61 rfl rfl (fun c_61 => ?_) (fun c_61 => ?_)
          · rw [lg_cmp_le, lN_leI (by omega) (by omega)] at c_61
            rw [if_neg (by omega)] at hI2
            refine pr_iinc 69 dX9_dearest_66 rfl (by first | exact pm_inc _ | rfl) (pm_st_2 rfl rfl) rfl ?_
            refine pr_goto 13 dX9_dearest_69 rfl ?_
            exact hI2
          · rw [lg_cmp_le, lN_leI (by omega) (by omega)] at c_61
            rw [if_pos (by omega)] at hI2
            refine pr_iload_n 65 dX9_dearest_64 rfl rfl rfl ?_
            refine pr_istore_n 66 dX9_dearest_65 rfl (pm_st_1 rfl rfl) rfl ?_
            refine pr_iinc 69 dX9_dearest_66 rfl (by first | exact pm_inc _ | rfl) (pm_st_2 rfl rfl) rfl ?_
            refine pr_goto 13 dX9_dearest_69 rfl ?_
            exact hI2
  refine Cl.of (own := RX9) rfl rfl (Nat.le_of_ble_eq_true rfl) rfl ?_; show PR _ _ _ _ _ _ [some _, none, none] _ _ _
  refine pr_aload_n 1 dX9_dearest_0 rfl rfl rfl ?_
  refine pr_iconst (0) 2 dX9_dearest_1 (by decide) rfl ?_
  refine pr_putI 5 dX9_dearest_2 fX9_1 rfl ?_
  refine pr_aload_n 6 dX9_dearest_5 rfl rfl rfl ?_
  refine pr_inv0R0 9 dX9_dearest_6 vX9_237 mX9_account (sp_X9_account h1 hW) ⟨Nat.le_of_ble_eq_true rfl, Nat.le_of_ble_eq_true rfl⟩ (Nat.le_of_ble_eq_true rfl) rfl (fun mem2 h2 => ?_)
  refine pr_iconst (-1) 10 dX9_dearest_9 (by decide) rfl ?_
  refine pr_istore_n 11 dX9_dearest_10 rfl (pm_st_1 rfl rfl) rfl ?_
  refine pr_iconst (0) 12 dX9_dearest_11 (by decide) rfl ?_
  refine pr_istore_n 13 dX9_dearest_12 rfl (pm_st_2 rfl rfl) rfl ?_
  exact lp mem2 h2 (K 40) 0 (by omega)
set_option maxRecDepth 100000 in
theorem sp_X9_without (h : rowR 20869371 mem0 K) (hW : WF K) (l o : Int32) : Cl yX9_without cX9_without 3 (some .int) 6 136 [pR 10009909 0, pI l, pI o] mem0 (mqP mem0 (q_without K l o) 0) := by
  have hn16 := hW.2.2.2.1
  have h1 : rowR 20869371 (mq1 mem0 0) K := h.q1
  refine Cl.of (own := RX9) rfl rfl (Nat.le_of_ble_eq_true rfl) rfl ?_; show PR _ _ _ _ _ _ [some _, some _, some _] _ _ _
  rcases hl : vix l (K 39) with _ | j
  · rw [show q_without K l o = -1 by simp [q_without, hl]]
    refine pr_aload_n 1 dX9_without_0 rfl rfl rfl ?_
    refine pr_iconst (0) 2 dX9_without_1 (by decide) rfl ?_
    refine pr_putI 5 dX9_without_2 fX9_1 rfl ?_
    refine pr_aload_n 6 dX9_without_5 rfl rfl rfl ?_
    refine pr_iload_n 7 dX9_without_6 rfl rfl rfl ?_
    refine pr_invD1 10 dX9_without_7 vX9_256 mX9_isLoad (sp_X9_isLoad h1 hW _) ⟨Nat.le_of_ble_eq_true rfl, Nat.le_of_ble_eq_true rfl⟩ (Nat.le_of_ble_eq_true rfl) rfl ?_
    refine pr_if_eq 26 13 dX9_without_10 rfl rfl (fun c_10 => ?_) (fun c_10 => absurd (vb_n hl) (c_10))
    refine pr_iconst (-1) 27 dX9_without_26 (by decide) rfl ?_
    refine pr_ireturn dX9_without_27 rfl ?_
    exact mqP.q1
  rcases ho : vix o (K 39) with _ | i
  · rw [show q_without K l o = -1 by simp [q_without, hl, ho]]
    refine pr_aload_n 1 dX9_without_0 rfl rfl rfl ?_
    refine pr_iconst (0) 2 dX9_without_1 (by decide) rfl ?_
    refine pr_putI 5 dX9_without_2 fX9_1 rfl ?_
    refine pr_aload_n 6 dX9_without_5 rfl rfl rfl ?_
    refine pr_iload_n 7 dX9_without_6 rfl rfl rfl ?_
    refine pr_invD1 10 dX9_without_7 vX9_256 mX9_isLoad (sp_X9_isLoad h1 hW _) ⟨Nat.le_of_ble_eq_true rfl, Nat.le_of_ble_eq_true rfl⟩ (Nat.le_of_ble_eq_true rfl) rfl ?_
    refine pr_if_eq 26 13 dX9_without_10 rfl rfl (fun c_10 => absurd (c_10) (vb_s hl)) (fun c_10 => ?_)
    refine pr_aload_n 14 dX9_without_13 rfl rfl rfl ?_
    refine pr_iload_n 15 dX9_without_14 rfl rfl rfl ?_
    refine pr_invD1 18 dX9_without_15 vX9_256 mX9_isLoad (sp_X9_isLoad h1 hW _) ⟨Nat.le_of_ble_eq_true rfl, Nat.le_of_ble_eq_true rfl⟩ (Nat.le_of_ble_eq_true rfl) rfl ?_
    refine pr_if_eq 26 21 dX9_without_18 rfl rfl (fun c_18 => ?_) (fun c_18 => absurd (vb_n ho) (c_18))
    refine pr_iconst (-1) 27 dX9_without_26 (by decide) rfl ?_
    refine pr_ireturn dX9_without_27 rfl ?_
    exact mqP.q1
  obtain ⟨rfl, hj⟩ := vix_some (by omega) hl
  obtain ⟨rfl, hi⟩ := vix_some (by omega) ho
  by_cases e : j = i
  · rw [show q_without K (nI j) (nI i) = -1 by simp [q_without, hl, ho, e]]
    refine pr_aload_n 1 dX9_without_0 rfl rfl rfl ?_
    refine pr_iconst (0) 2 dX9_without_1 (by decide) rfl ?_
    refine pr_putI 5 dX9_without_2 fX9_1 rfl ?_
    refine pr_aload_n 6 dX9_without_5 rfl rfl rfl ?_
    refine pr_iload_n 7 dX9_without_6 rfl rfl rfl ?_
    refine pr_invD1 10 dX9_without_7 vX9_256 mX9_isLoad (sp_X9_isLoad h1 hW _) ⟨Nat.le_of_ble_eq_true rfl, Nat.le_of_ble_eq_true rfl⟩ (Nat.le_of_ble_eq_true rfl) rfl ?_
    refine pr_if_eq 26 13 dX9_without_10 rfl rfl (fun c_10 => absurd (c_10) (vb_s hl)) (fun c_10 => ?_)
    refine pr_aload_n 14 dX9_without_13 rfl rfl rfl ?_
    refine pr_iload_n 15 dX9_without_14 rfl rfl rfl ?_
    refine pr_invD1 18 dX9_without_15 vX9_256 mX9_isLoad (sp_X9_isLoad h1 hW _) ⟨Nat.le_of_ble_eq_true rfl, Nat.le_of_ble_eq_true rfl⟩ (Nat.le_of_ble_eq_true rfl) rfl ?_
    refine pr_if_eq 26 21 dX9_without_18 rfl rfl (fun c_18 => absurd (c_18) (vb_s ho)) (fun c_18 => ?_)
    refine pr_iload_n 22 dX9_without_21 rfl rfl rfl ?_
    refine pr_iload_n 23 dX9_without_22 rfl rfl rfl ?_
    refine pr_icmp_ne 28 26 dX9_without_23 rfl rfl (fun c_23 => absurd (congrArg nI e) (c_23)) (fun c_23 => ?_)
    refine pr_iconst (-1) 27 dX9_without_26 (by decide) rfl ?_
    refine pr_ireturn dX9_without_27 rfl ?_
    exact mqP.q1
  rw [show q_without K (nI j) (nI i) = nI (shr K (woW K j) ai (K 39) i) by simp [q_without, hl, ho, e]]
  refine pr_aload_n 1 dX9_without_0 rfl rfl rfl ?_
  refine pr_iconst (0) 2 dX9_without_1 (by decide) rfl ?_
  refine pr_putI 5 dX9_without_2 fX9_1 rfl ?_
  refine pr_aload_n 6 dX9_without_5 rfl rfl rfl ?_
  refine pr_iload_n 7 dX9_without_6 rfl rfl rfl ?_
  refine pr_invD1 10 dX9_without_7 vX9_256 mX9_isLoad (sp_X9_isLoad h1 hW _) ⟨Nat.le_of_ble_eq_true rfl, Nat.le_of_ble_eq_true rfl⟩ (Nat.le_of_ble_eq_true rfl) rfl ?_
  refine pr_if_eq 26 13 dX9_without_10 rfl rfl (fun c_10 => absurd (c_10) (vb_s hl)) (fun c_10 => ?_)
  refine pr_aload_n 14 dX9_without_13 rfl rfl rfl ?_
  refine pr_iload_n 15 dX9_without_14 rfl rfl rfl ?_
  refine pr_invD1 18 dX9_without_15 vX9_256 mX9_isLoad (sp_X9_isLoad h1 hW _) ⟨Nat.le_of_ble_eq_true rfl, Nat.le_of_ble_eq_true rfl⟩ (Nat.le_of_ble_eq_true rfl) rfl ?_
  refine pr_if_eq 26 21 dX9_without_18 rfl rfl (fun c_18 => absurd (c_18) (vb_s ho)) (fun c_18 => ?_)
  refine pr_iload_n 22 dX9_without_21 rfl rfl rfl ?_
  refine pr_iload_n 23 dX9_without_22 rfl rfl rfl ?_
  refine pr_icmp_ne 28 26 dX9_without_23 rfl rfl (fun c_23 => ?_) (fun c_23 => absurd (c_23) (fun z => e ((nI_eq (by omega) (by omega)).mp z)))
  refine pr_aload_n 29 dX9_without_28 rfl rfl rfl ?_
  refine pr_inv0R0 32 dX9_without_29 vX9_221 mX9_laysWeights (sp_X9_laysWeights h1 hW) ⟨Nat.le_of_ble_eq_true rfl, Nat.le_of_ble_eq_true rfl⟩ (Nat.le_of_ble_eq_true rfl) rfl (fun mem2 h2 => ?_)
  obtain ⟨f2, d2, w2, k2⟩ := h2
  refine pr_aload_n 33 dX9_without_32 rfl rfl rfl ?_
  refine pr_getR0 36 dX9_without_33 fX9_73 rfl ?_
  refine pr_iload_n 37 dX9_without_36 rfl rfl rfl ?_
  refine pr_iconst (0) 38 dX9_without_37 (by decide) rfl ?_
  refine pr_iastore j 39 dX9_without_38 rfl rfl rfl (by omega) rfl ?_
  refine pr_aload_n 40 dX9_without_39 rfl rfl rfl ?_
  refine pr_iload_n 41 dX9_without_40 rfl rfl rfl ?_
  refine pr_putI 44 dX9_without_41 fX9_179 rfl ?_
  have f3 : pm_fr sMW (mq1 mem0 0) (pm_uI (pm_uI mem2 20017375 0 j 0) 10009909 0 27 (nI j)) := (f2.uI ⟨by simp, rfl⟩).uI ⟨by simp, rfl⟩
  have d3 : mdW (mq1 mem0 0) (pm_uI (pm_uI mem2 20017375 0 j 0) 10009909 0 27 (nI j)) := ⟨fun k a b => by rw [pm_gIn (fun y => b y.2.2), pm_gIn (by simp)]; exact d2.1 k a b, d2.2⟩
  have w3 : mwR (pm_uI (pm_uI mem2 20017375 0 j 0) 10009909 0 27 (nI j)) (woW K j) ai (K 39) (some j) := by
    refine ⟨by rw [pm_gIn (by simp), pm_gIn (by simp)]; exact w2.1, by rw [pm_gIe]; rfl, fun k hk => ⟨?_, by rw [pm_gIn (by simp), pm_gIn (by simp)]; exact (w2.2.2 k hk).2⟩⟩
    rw [pm_gIn (by simp)]
    unfold woW
    by_cases z : k = j
    · subst z; rw [pm_gIe, if_pos rfl]; rfl
    · rw [pm_gIn (fun y => z y.2.2), if_neg z]; exact (w2.2.2 k hk).1
  have r3 := h1.fr f3 (by simp [sMW])
  refine pr_aload_n 45 dX9_without_44 rfl rfl rfl ?_
  refine pr_inv0R0 48 dX9_without_45 vX9_224 mX9_laysAccount (sp_X9_laysAccount r3 hW (woWL hW j) w3 (fun l z => by cases z; exact ⟨hj, by simp [woW]⟩)) ⟨Nat.le_of_ble_eq_true rfl, Nat.le_of_ble_eq_true rfl⟩ (Nat.le_of_ble_eq_true rfl) rfl (fun mem4 h4 => ?_)
  obtain ⟨f4, d4, a4⟩ := h4
  refine pr_aload_n 49 dX9_without_48 rfl rfl rfl ?_
  refine pr_getR0 52 dX9_without_49 fX9_88 rfl ?_
  refine pr_iload_n 53 dX9_without_52 rfl rfl rfl ?_
  refine pr_iaload i 54 dX9_without_53 rfl rfl rfl (by omega) rfl ?_
  rw [(a4.2.2 i hi).2]
  refine pr_ireturn dX9_without_54 rfl ?_
  exact mqP.of ((f3.mono sMW_Q).tr (f4.mono sMA_Q)) (d3.Q.tr d4.Q)
set_option maxRecDepth 100000 in
theorem sp_X9_split (h : rowR 20869371 mem0 K) (hW : WF K) (l w c : Int32) : Cl yX9_split cX9_split 4 (some .int) 6 136 [pR 10009909 0, pI l, pI w, pI c] mem0 (mqP mem0 (q_split K l w c) 0) := by
  have hn16 := hW.2.2.2.1
  have h1 : rowR 20869371 (mq1 mem0 0) K := h.q1
  refine Cl.of (own := RX9) rfl rfl (Nat.le_of_ble_eq_true rfl) rfl ?_; show PR _ _ _ _ _ _ [some _, some _, some _, some _] _ _ _
  rcases hl : vix l (K 39) with _ | j
  · rw [show q_split K l w c = -1 by simp [q_split, hl]]
    refine pr_aload_n 1 dX9_split_0 rfl rfl rfl ?_
    refine pr_iconst (0) 2 dX9_split_1 (by decide) rfl ?_
    refine pr_putI 5 dX9_split_2 fX9_1 rfl ?_
    refine pr_aload_n 6 dX9_split_5 rfl rfl rfl ?_
    refine pr_iload_n 7 dX9_split_6 rfl rfl rfl ?_
    refine pr_invD1 10 dX9_split_7 vX9_256 mX9_isLoad (sp_X9_isLoad h1 hW _) ⟨Nat.le_of_ble_eq_true rfl, Nat.le_of_ble_eq_true rfl⟩ (Nat.le_of_ble_eq_true rfl) rfl ?_
    refine pr_if_eq 50 13 dX9_split_10 rfl rfl (fun c_10 => ?_) (fun c_10 => absurd (vb_n hl) (c_10))
    refine pr_iconst (-1) 51 dX9_split_50 (by decide) rfl ?_
    refine pr_ireturn dX9_split_51 rfl ?_
    exact mqP.q1
  obtain ⟨rfl, hj⟩ := vix_some (by omega) hl
  have hwj := (hW.2.2.2.2.2.2.2.1 j hj).1
  rcases hc : vix c 2 with _ | e
  · have e : q_split K (nI j) w c = -1 := by
      rw [q_split, hl, Option.elim_some]
      rcases vw w (K (20 + j)) with _ | v
      · rfl
      · rw [Option.elim_some, hc]; rfl
    rw [e]
    refine pr_aload_n 1 dX9_split_0 rfl rfl rfl ?_
    refine pr_iconst (0) 2 dX9_split_1 (by decide) rfl ?_
    refine pr_putI 5 dX9_split_2 fX9_1 rfl ?_
    refine pr_aload_n 6 dX9_split_5 rfl rfl rfl ?_
    refine pr_iload_n 7 dX9_split_6 rfl rfl rfl ?_
    refine pr_invD1 10 dX9_split_7 vX9_256 mX9_isLoad (sp_X9_isLoad h1 hW _) ⟨Nat.le_of_ble_eq_true rfl, Nat.le_of_ble_eq_true rfl⟩ (Nat.le_of_ble_eq_true rfl) rfl ?_
    refine pr_if_eq 50 13 dX9_split_10 rfl rfl (fun c_10 => absurd (c_10) (vb_s hl)) (fun c_10 => ?_)
    refine pr_iload_n 14 dX9_split_13 rfl rfl rfl ?_
    refine pr_iconst (0) 15 dX9_split_14 (by decide) rfl ?_
    refine pr_iconst (1) 16 dX9_split_15 (by decide) rfl ?_
    refine pr_ivsD3 19 dX9_split_16 sX9_113 mX9_isIn (sp_isInM (n := 2) _ (by omega)) ⟨Nat.le_of_ble_eq_true rfl, Nat.le_of_ble_eq_true rfl⟩ (Nat.le_of_ble_eq_true rfl) rfl ?_
    refine pr_if_eq 50 22 dX9_split_19 rfl rfl (fun c_19 => ?_) (fun c_19 => absurd (vb_n hc) (c_19))
    refine pr_iconst (-1) 51 dX9_split_50 (by decide) rfl ?_
    refine pr_ireturn dX9_split_51 rfl ?_
    exact mqP.q1
  rcases hw : vw w (K (20 + j)) with _ | v
  · rw [show q_split K (nI j) w c = -1 by simp [q_split, hl, hw]]
    refine pr_aload_n 1 dX9_split_0 rfl rfl rfl ?_
    refine pr_iconst (0) 2 dX9_split_1 (by decide) rfl ?_
    refine pr_putI 5 dX9_split_2 fX9_1 rfl ?_
    refine pr_aload_n 6 dX9_split_5 rfl rfl rfl ?_
    refine pr_iload_n 7 dX9_split_6 rfl rfl rfl ?_
    refine pr_invD1 10 dX9_split_7 vX9_256 mX9_isLoad (sp_X9_isLoad h1 hW _) ⟨Nat.le_of_ble_eq_true rfl, Nat.le_of_ble_eq_true rfl⟩ (Nat.le_of_ble_eq_true rfl) rfl ?_
    refine pr_if_eq 50 13 dX9_split_10 rfl rfl (fun c_10 => absurd (c_10) (vb_s hl)) (fun c_10 => ?_)
    refine pr_iload_n 14 dX9_split_13 rfl rfl rfl ?_
    refine pr_iconst (0) 15 dX9_split_14 (by decide) rfl ?_
    refine pr_iconst (1) 16 dX9_split_15 (by decide) rfl ?_
    refine pr_ivsD3 19 dX9_split_16 sX9_113 mX9_isIn (sp_isInM (n := 2) _ (by omega)) ⟨Nat.le_of_ble_eq_true rfl, Nat.le_of_ble_eq_true rfl⟩ (Nat.le_of_ble_eq_true rfl) rfl ?_
    refine pr_if_eq 50 22 dX9_split_19 rfl rfl (fun c_19 => absurd (c_19) (vb_s hc)) (fun c_19 => ?_)
    refine pr_iload_n 23 dX9_split_22 rfl rfl rfl ?_
    refine pr_iconst (1) 24 dX9_split_23 (by decide) rfl ?_
    refine pr_aload_n 25 dX9_split_24 rfl rfl rfl ?_
    refine pr_getR0 28 dX9_split_25 fX9_64 rfl ?_
    refine pr_bipush (20) 30 dX9_split_28 (by decide) rfl ?_
    refine pr_iload_n 31 dX9_split_30 rfl rfl rfl ?_
    refine pr_iadd 32 dX9_split_31 rfl ?_
    refine pr_iaload (20 + j) 33 dX9_split_32 rfl rfl (nI_add 20 j) (by omega) rfl ?_
    rw [h1.1 _ (by omega) (by omega)]
    refine pr_iconst (1) 34 dX9_split_33 (by decide) rfl ?_
    refine pr_isub 35 dX9_split_34 rfl ?_
    refine pr_ivsD3 38 dX9_split_35 sX9_113 mX9_isIn (sp_X9_isIn _ _ _) ⟨Nat.le_of_ble_eq_true rfl, Nat.le_of_ble_eq_true rfl⟩ (Nat.le_of_ble_eq_true rfl) rfl ?_
    refine pr_if_eq 50 41 dX9_split_38 rfl rfl (fun c_38 => ?_) (fun c_38 => absurd (by rw [if_neg (vw_none (by omega) hw)]) (c_38))
    refine pr_iconst (-1) 51 dX9_split_50 (by decide) rfl ?_
    refine pr_ireturn dX9_split_51 rfl ?_
    exact mqP.q1
  have ein : (1 : Int32) ≤ w ∧ w ≤ nI (K (20 + j)) - 1 := by
    obtain ⟨rfl, hv1, hv2⟩ := vw_some (by omega) hw
    rw [Int32.le_iff_toInt_le, Int32.le_iff_toInt_le, nIm1 (by omega), nI_toInt (by omega), show (1 : Int32).toInt = 1 from rfl]
    omega
  by_cases h16 : K 39 = 16
  · have e : q_split K (nI j) w c = -1 := by
      rw [q_split, hl, Option.elim_some, hw, Option.elim_some, hc, Option.elim_some, if_pos h16]
    rw [e]
    refine pr_aload_n 1 dX9_split_0 rfl rfl rfl ?_
    refine pr_iconst (0) 2 dX9_split_1 (by decide) rfl ?_
    refine pr_putI 5 dX9_split_2 fX9_1 rfl ?_
    refine pr_aload_n 6 dX9_split_5 rfl rfl rfl ?_
    refine pr_iload_n 7 dX9_split_6 rfl rfl rfl ?_
    refine pr_invD1 10 dX9_split_7 vX9_256 mX9_isLoad (sp_X9_isLoad h1 hW _) ⟨Nat.le_of_ble_eq_true rfl, Nat.le_of_ble_eq_true rfl⟩ (Nat.le_of_ble_eq_true rfl) rfl ?_
    refine pr_if_eq 50 13 dX9_split_10 rfl rfl (fun c_10 => absurd (c_10) (vb_s hl)) (fun c_10 => ?_)
    refine pr_iload_n 14 dX9_split_13 rfl rfl rfl ?_
    refine pr_iconst (0) 15 dX9_split_14 (by decide) rfl ?_
    refine pr_iconst (1) 16 dX9_split_15 (by decide) rfl ?_
    refine pr_ivsD3 19 dX9_split_16 sX9_113 mX9_isIn (sp_isInM (n := 2) _ (by omega)) ⟨Nat.le_of_ble_eq_true rfl, Nat.le_of_ble_eq_true rfl⟩ (Nat.le_of_ble_eq_true rfl) rfl ?_
    refine pr_if_eq 50 22 dX9_split_19 rfl rfl (fun c_19 => absurd (c_19) (vb_s hc)) (fun c_19 => ?_)
    refine pr_iload_n 23 dX9_split_22 rfl rfl rfl ?_
    refine pr_iconst (1) 24 dX9_split_23 (by decide) rfl ?_
    refine pr_aload_n 25 dX9_split_24 rfl rfl rfl ?_
    refine pr_getR0 28 dX9_split_25 fX9_64 rfl ?_
    refine pr_bipush (20) 30 dX9_split_28 (by decide) rfl ?_
    refine pr_iload_n 31 dX9_split_30 rfl rfl rfl ?_
    refine pr_iadd 32 dX9_split_31 rfl ?_
    refine pr_iaload (20 + j) 33 dX9_split_32 rfl rfl (nI_add 20 j) (by omega) rfl ?_
    rw [h1.1 _ (by omega) (by omega)]
    refine pr_iconst (1) 34 dX9_split_33 (by decide) rfl ?_
    refine pr_isub 35 dX9_split_34 rfl ?_
    refine pr_ivsD3 38 dX9_split_35 sX9_113 mX9_isIn (sp_X9_isIn _ _ _) ⟨Nat.le_of_ble_eq_true rfl, Nat.le_of_ble_eq_true rfl⟩ (Nat.le_of_ble_eq_true rfl) rfl ?_
    refine pr_if_eq 50 41 dX9_split_38 rfl rfl (fun c_38 => absurd (c_38) (by rw [if_pos ein]; decide)) (fun c_38 => ?_)
    refine pr_aload_n 42 dX9_split_41 rfl rfl rfl ?_
    refine pr_invD0 45 dX9_split_42 vX9_170 mX9_loads (sp_X9_loads h1) ⟨Nat.le_of_ble_eq_true rfl, Nat.le_of_ble_eq_true rfl⟩ (Nat.le_of_ble_eq_true rfl) rfl ?_
    refine pr_bipush (16) 47 dX9_split_45 (by decide) rfl ?_
    refine pr_icmp_ne 52 50 dX9_split_47 rfl rfl (fun c_47 => absurd (by rw [h16]; rfl) (c_47)) (fun c_47 => ?_)
    refine pr_iconst (-1) 51 dX9_split_50 (by decide) rfl ?_
    refine pr_ireturn dX9_split_51 rfl ?_
    exact mqP.q1
  have hq : q_split K (nI j) w c = nI (if e = 1 then shr K (spW K j v) (spL K j) (K 39 + 1) j else shr K (spW K j v) (spL K j) (K 39 + 1) j + shr K (spW K j v) (spL K j) (K 39 + 1) (K 39)) := by
    rw [q_split, hl, Option.elim_some, hw, Option.elim_some, hc, Option.elim_some, if_neg h16]
  rw [hq]
  obtain ⟨rfl, he⟩ := vix_some (by omega) hc
  obtain ⟨rfl, hv1, hv2⟩ := vw_some (by omega) hw
  refine pr_aload_n 1 dX9_split_0 rfl rfl rfl ?_
  refine pr_iconst (0) 2 dX9_split_1 (by decide) rfl ?_
  refine pr_putI 5 dX9_split_2 fX9_1 rfl ?_
  refine pr_aload_n 6 dX9_split_5 rfl rfl rfl ?_
  refine pr_iload_n 7 dX9_split_6 rfl rfl rfl ?_
  refine pr_invD1 10 dX9_split_7 vX9_256 mX9_isLoad (sp_X9_isLoad h1 hW _) ⟨Nat.le_of_ble_eq_true rfl, Nat.le_of_ble_eq_true rfl⟩ (Nat.le_of_ble_eq_true rfl) rfl ?_
  refine pr_if_eq 50 13 dX9_split_10 rfl rfl (fun c_10 => absurd (c_10) (vb_s hl)) (fun c_10 => ?_)
  refine pr_iload_n 14 dX9_split_13 rfl rfl rfl ?_
  refine pr_iconst (0) 15 dX9_split_14 (by decide) rfl ?_
  refine pr_iconst (1) 16 dX9_split_15 (by decide) rfl ?_
  refine pr_ivsD3 19 dX9_split_16 sX9_113 mX9_isIn (sp_isInM (n := 2) _ (by omega)) ⟨Nat.le_of_ble_eq_true rfl, Nat.le_of_ble_eq_true rfl⟩ (Nat.le_of_ble_eq_true rfl) rfl ?_
  refine pr_if_eq 50 22 dX9_split_19 rfl rfl (fun c_19 => absurd (c_19) (vb_s hc)) (fun c_19 => ?_)
  refine pr_iload_n 23 dX9_split_22 rfl rfl rfl ?_
  refine pr_iconst (1) 24 dX9_split_23 (by decide) rfl ?_
  refine pr_aload_n 25 dX9_split_24 rfl rfl rfl ?_
  refine pr_getR0 28 dX9_split_25 fX9_64 rfl ?_
  refine pr_bipush (20) 30 dX9_split_28 (by decide) rfl ?_
  refine pr_iload_n 31 dX9_split_30 rfl rfl rfl ?_
  refine pr_iadd 32 dX9_split_31 rfl ?_
  refine pr_iaload (20 + j) 33 dX9_split_32 rfl rfl (nI_add 20 j) (by omega) rfl ?_
  rw [h1.1 _ (by omega) (by omega)]
  refine pr_iconst (1) 34 dX9_split_33 (by decide) rfl ?_
  refine pr_isub 35 dX9_split_34 rfl ?_
  refine pr_ivsD3 38 dX9_split_35 sX9_113 mX9_isIn (sp_X9_isIn _ _ _) ⟨Nat.le_of_ble_eq_true rfl, Nat.le_of_ble_eq_true rfl⟩ (Nat.le_of_ble_eq_true rfl) rfl ?_
  refine pr_if_eq 50 41 dX9_split_38 rfl rfl (fun c_38 => absurd (c_38) (by rw [if_pos ein]; decide)) (fun c_38 => ?_)
  refine pr_aload_n 42 dX9_split_41 rfl rfl rfl ?_
  refine pr_invD0 45 dX9_split_42 vX9_170 mX9_loads (sp_X9_loads h1) ⟨Nat.le_of_ble_eq_true rfl, Nat.le_of_ble_eq_true rfl⟩ (Nat.le_of_ble_eq_true rfl) rfl ?_
  refine pr_bipush (16) 47 dX9_split_45 (by decide) rfl ?_
  refine pr_icmp_ne 52 50 dX9_split_47 rfl rfl (fun c_47 => ?_) (fun c_47 => absurd (c_47) (fun z => h16 ((nI_eq (b := 16) (by omega) (by omega)).mp z)))
  refine pr_aload_n 53 dX9_split_52 rfl rfl rfl ?_
  refine pr_inv0R0 56 dX9_split_53 vX9_221 mX9_laysWeights (sp_X9_laysWeights h1 hW) ⟨Nat.le_of_ble_eq_true rfl, Nat.le_of_ble_eq_true rfl⟩ (Nat.le_of_ble_eq_true rfl) rfl (fun mem2 h2 => ?_)
  obtain ⟨f2, d2, w2, k2⟩ := h2
  have wj : mem2.1 20017375 0 j = nI (K (20 + j)) := (w2.2.2 j hj).1
  have em := w2.1
  refine pr_aload_n 57 dX9_split_56 rfl rfl rfl ?_
  refine pr_getR0 60 dX9_split_57 fX9_76 rfl ?_
  refine pr_aload_n 61 dX9_split_60 rfl rfl rfl ?_
  refine pr_getI 64 dX9_split_61 fX9_176 rfl ?_
  rw [em]
  refine pr_iload_n 65 dX9_split_64 rfl rfl rfl ?_
  refine pr_iastore (K 39) 66 dX9_split_65 rfl rfl rfl (by omega) rfl ?_
  refine pr_aload_n 67 dX9_split_66 rfl rfl rfl ?_
  refine pr_getR0 70 dX9_split_67 fX9_73 rfl ?_
  refine pr_aload_n 71 dX9_split_70 rfl rfl rfl ?_
  refine pr_getI 74 dX9_split_71 fX9_176 rfl ?_
  rw [pm_gIn (by simp), em]
  refine pr_aload_n 75 dX9_split_74 rfl rfl rfl ?_
  refine pr_getR0 78 dX9_split_75 fX9_73 rfl ?_
  refine pr_iload_n 79 dX9_split_78 rfl rfl rfl ?_
  refine pr_iaload j 80 dX9_split_79 rfl rfl rfl (by omega) rfl ?_
  rw [pm_gIn (by simp), wj]
  refine pr_iload_n 81 dX9_split_80 rfl rfl rfl ?_
  refine pr_isub 82 dX9_split_81 rfl ?_
  rw [nI_subN (by omega)]
  refine pr_iastore (K 39) 83 dX9_split_82 rfl rfl rfl (by omega) rfl ?_
  refine pr_aload_n 84 dX9_split_83 rfl rfl rfl ?_
  refine pr_getR0 87 dX9_split_84 fX9_73 rfl ?_
  refine pr_iload_n 88 dX9_split_87 rfl rfl rfl ?_
  refine pr_iload_n 89 dX9_split_88 rfl rfl rfl ?_
  refine pr_iastore j 90 dX9_split_89 rfl rfl rfl (by omega) rfl ?_
  refine pr_aload_n 91 dX9_split_90 rfl rfl rfl ?_
  refine pr_dup rfl 92 dX9_split_91 rfl ?_
  refine pr_getI 95 dX9_split_92 fX9_176 rfl ?_
  rw [pm_gIn (by simp), pm_gIn (by simp), pm_gIn (by simp), em]
  refine pr_iconst (1) 96 dX9_split_95 (by decide) rfl ?_
  refine pr_iadd 97 dX9_split_96 rfl ?_
  rw [nI_1]
  refine pr_putI 100 dX9_split_97 fX9_176 rfl ?_
  generalize hm3 : pm_uI (pm_uI (pm_uI (pm_uI mem2 20017376 0 (K 39) (nI j)) 20017375 0 (K 39) (nI (K (20 + j) - v))) 20017375 0 j (nI v)) 10009909 0 26 (nI (K 39 + 1)) = mem3
  have f3 : pm_fr sMW (mq1 mem0 0) mem3 := by
    rw [← hm3]
    exact (((f2.uI ⟨by simp, rfl⟩).uI ⟨by simp, rfl⟩).uI ⟨by simp, rfl⟩).uI ⟨by simp, rfl⟩
  have d3 : mdW (mq1 mem0 0) mem3 := by
    rw [← hm3]
    exact ⟨fun k a b => by rw [pm_gIn (fun y => a y.2.2), pm_gIn (by simp), pm_gIn (by simp), pm_gIn (by simp)]; exact d2.1 k a b, d2.2⟩
  have w3 : mwR mem3 (spW K j v) (spL K j) (K 39 + 1) none := by
    rw [← hm3]
    refine ⟨by rw [pm_gIe], by rw [pm_gIn (by simp), pm_gIn (by simp), pm_gIn (by simp), pm_gIn (by simp)]; exact w2.2.1, fun k hk => ⟨?_, ?_⟩⟩
    · rw [pm_gIn (by simp)]
      unfold spW
      by_cases z : k = j
      · subst z; rw [pm_gIe, if_pos rfl]
      · rw [pm_gIn (fun y => z y.2.2), if_neg z]
        by_cases z2 : k = K 39
        · subst z2; rw [pm_gIe, if_pos rfl]
        · rw [pm_gIn (fun y => z2 y.2.2), if_neg z2, pm_gIn (by simp)]
          exact (w2.2.2 k (by omega)).1
    · rw [pm_gIn (by simp), pm_gIn (by simp), pm_gIn (by simp)]
      unfold spL
      by_cases z2 : k = K 39
      · subst z2; rw [pm_gIe, if_pos rfl]
      · rw [pm_gIn (fun y => z2 y.2.2), if_neg z2]
        exact (w2.2.2 k (by omega)).2
  have r3 := h1.fr f3 (by simp [sMW])
  refine pr_aload_n 101 dX9_split_100 rfl rfl rfl ?_
  refine pr_inv0R0 104 dX9_split_101 vX9_224 mX9_laysAccount (sp_X9_laysAccount r3 hW (spWL hW hj (by omega) h16) w3 (fun l z => by cases z)) ⟨Nat.le_of_ble_eq_true rfl, Nat.le_of_ble_eq_true rfl⟩ (Nat.le_of_ble_eq_true rfl) rfl (fun mem4 h4 => ?_)
  obtain ⟨f4, d4, a4⟩ := h4
  have fin : ∀ x : Int32, mqP mem0 x 0 (some (pI x)) mem4 := fun x => mqP.of ((f3.mono sMW_Q).tr (f4.mono sMA_Q)) (d3.Q.tr d4.Q)
  have s1 := (a4.2.2 j (by omega)).2
  have s2 := (a4.2.2 (K 39) (by omega)).2
  have em4 : mem4.1 10009909 0 26 = nI (K 39 + 1) := by rw [d4.1 _ (by decide)]; exact w3.1
  refine pr_iload_n 105 dX9_split_104 rfl rfl rfl ?_
  refine pr_iconst (1) 106 dX9_split_105 (by decide) rfl ?_
  refine pr_icmp_ne 118 109 dX9_split_106 rfl rfl (fun c_106 => ?_) (fun c_106 => ?_)
  · have e0 : ¬ e = 1 := fun z => c_106 (by rw [z]; rfl)
    rw [if_neg e0]
    refine pr_aload_n 119 dX9_split_118 rfl rfl rfl ?_
    refine pr_getR0 122 dX9_split_119 fX9_88 rfl ?_
    refine pr_iload_n 123 dX9_split_122 rfl rfl rfl ?_
    refine pr_iaload j 124 dX9_split_123 rfl rfl rfl (by omega) rfl ?_
    rw [s1]
    refine pr_aload_n 125 dX9_split_124 rfl rfl rfl ?_
    refine pr_getR0 128 dX9_split_125 fX9_88 rfl ?_
    refine pr_aload_n 129 dX9_split_128 rfl rfl rfl ?_
    refine pr_getI 132 dX9_split_129 fX9_176 rfl ?_
    rw [em4]
    refine pr_iconst (1) 133 dX9_split_132 (by decide) rfl ?_
    refine pr_isub 134 dX9_split_133 rfl ?_
    rw [nI_pred]
    refine pr_iaload (K 39) 135 dX9_split_134 rfl rfl rfl (by omega) rfl ?_
    rw [s2]
    refine pr_iadd 136 dX9_split_135 rfl ?_
    rw [nI_add]
    refine pr_ireturn dX9_split_136 rfl ?_
    exact fin _
  · have e0 : e = 1 := (nI_eq (b := 1) (by omega) (by omega)).mp c_106
    rw [if_pos e0]
    refine pr_aload_n 110 dX9_split_109 rfl rfl rfl ?_
    refine pr_getR0 113 dX9_split_110 fX9_88 rfl ?_
    refine pr_iload_n 114 dX9_split_113 rfl rfl rfl ?_
    refine pr_iaload j 115 dX9_split_114 rfl rfl rfl (by omega) rfl ?_
    rw [s1]
    refine pr_goto 136 dX9_split_115 rfl ?_
    refine pr_ireturn dX9_split_136 rfl ?_
    exact fin _
end MP
