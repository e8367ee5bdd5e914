/-! Parter -/
def sPar (L : Nat) : Nat → Nat → Prop := fun t i => (t = 20016120 ∨ t = 40016122) ∧ i = L
set_option maxRecDepth 100000 in
theorem sp_X3_begin {mem : pm_M} (L : Nat) : Cd yX3_begin cX3_begin 1 none 0 0 [pR 10003903 L] mem none (pm_uI mem 10003903 L 3 0) := by
  refine Cl.of (own := RX3) rfl rfl (Nat.le_of_ble_eq_true rfl) rfl ?_; show PR _ _ _ _ _ _ [some _] _ _ _
  refine pr_aload_n 1 dX3_begin_0 rfl rfl rfl ?_
  refine pr_iconst (0) 2 dX3_begin_1 (by decide) rfl ?_
  refine pr_putI 5 dX3_begin_2 fX3_22 rfl ?_
  refine pr_return dX3_begin_5 rfl ?_
  exact ⟨rfl, rfl⟩
set_option maxRecDepth 100000 in
theorem sp_X3_add {mem : pm_M} {L c : Nat} {x : Int32} (hc : mem.1 10003903 L 3 = nI c) (h16 : c < 16) : Cd yX3_add cX3_add 2 none 0 0 [pR 10003903 L, pI x] mem none (pm_uI (pm_uI mem 20016121 L c x) 10003903 L 3 (nI (c + 1))) := by
  refine Cl.of (own := RX3) rfl rfl (Nat.le_of_ble_eq_true rfl) rfl ?_; show PR _ _ _ _ _ _ [some _, some _] _ _ _
  refine pr_aload_n 1 dX3_add_0 rfl rfl rfl ?_
  refine pr_getI 4 dX3_add_1 fX3_22 rfl ?_
  rw [hc]
  refine pr_bipush (16) 6 dX3_add_4 (by decide) rfl ?_
  refine pr_icmp_ge 29 9 dX3_add_6 rfl rfl (fun c_6 => absurd (c_6) (fun z => (nI_ge h16 (by omega)) z)) (fun c_6 => ?_)
  refine pr_aload_n 10 dX3_add_9 rfl rfl rfl ?_
  refine pr_getR0 13 dX3_add_10 fX3_15 rfl ?_
  refine pr_aload_n 14 dX3_add_13 rfl rfl rfl ?_
  refine pr_getI 17 dX3_add_14 fX3_22 rfl ?_
  rw [hc]
  refine pr_iload_n 18 dX3_add_17 rfl rfl rfl ?_
  refine pr_iastore _ 19 dX3_add_18 rfl rfl rfl (by omega) rfl ?_
  refine pr_aload_n 20 dX3_add_19 rfl rfl rfl ?_
  refine pr_dup rfl 21 dX3_add_20 rfl ?_
  refine pr_getI 24 dX3_add_21 fX3_22 rfl ?_
  rw [pm_gI, if_neg (by simp), hc]
  refine pr_iconst (1) 25 dX3_add_24 (by decide) rfl ?_
  refine pr_iadd 26 dX3_add_25 rfl ?_
  rw [show (1 : Int32) = nI 1 from rfl, nI_add]
  refine pr_putI 29 dX3_add_26 fX3_22 rfl ?_
  refine pr_return dX3_add_29 rfl ?_
  exact ⟨rfl, rfl⟩
/-- the rows of a parter are such a state -/
def gRow (mem : pm_M) (L c : Nat) (s : gT) : Prop := ∀ k, k < c → mem.1 20016120 L k = nI (s.1 k) ∧ mem.2.1 40016122 L k = lI (s.2 k)
def gBnd (s : gT) : Prop := ∀ k, -1 ≤ s.2 k ∧ s.2 k < 4611686018427387904
set_option maxRecDepth 100000 in
theorem lp_X3_giveOne {mem : pm_M} {L c : Nat} {s : gT} {X : Nat → List (Option pm_v) → List pm_v → pm_M → Prop} (hc : mem.1 10003903 L 3 = nI c) (h16 : c ≤ 16) (hg : gRow mem L c s) (hb : gBnd s) (hk : PR cX3_giveOne RX3 3 0 0 36 [some (pR 10003903 L), some (pI (nI (am s.2 (c - 1)))), some (pI (nI c))] [] mem X) :
    ∀ j k, k + 1 + j = c → PR cX3_giveOne RX3 3 0 0 4 [some (pR 10003903 L), some (pI (nI (am s.2 k))), some (pI (nI (k + 1)))] [] mem X := by
  intro j
  induction j with
  | zero =>
    intro k hj
    have e : c = k + 1 := by omega
    subst e
    refine pr_iload_n 5 dX3_giveOne_4 rfl rfl rfl ?_
    refine pr_aload_n 6 dX3_giveOne_5 rfl rfl rfl ?_
    refine pr_getI 9 dX3_giveOne_6 fX3_22 rfl ?_
    rw [hc]
    refine pr_icmp_ge 36 12 dX3_giveOne_9 rfl rfl (fun c_9 => ?_) (fun c_9 => absurd (nI_le (Nat.le_refl _) (by omega)) (c_9))
    exact hk
  | succ j ih =>
    intro k hj
    have hm := am_le s.2 k
    refine pr_iload_n 5 dX3_giveOne_4 rfl rfl rfl ?_
    refine pr_aload_n 6 dX3_giveOne_5 rfl rfl rfl ?_
    refine pr_getI 9 dX3_giveOne_6 fX3_22 rfl ?_
    rw [hc]
    refine pr_icmp_ge 36 12 dX3_giveOne_9 rfl rfl (fun c_9 => absurd (c_9) (nI_ge (by omega) (by omega))) (fun c_9 => ?_)
    refine pr_aload_n 13 dX3_giveOne_12 rfl rfl rfl ?_
    refine pr_getR0 16 dX3_giveOne_13 fX3_18 rfl ?_
    refine pr_iload_n 17 dX3_giveOne_16 rfl rfl rfl ?_
    refine pr_laload (k + 1) 18 dX3_giveOne_17 rfl rfl rfl (by omega) rfl ?_
    rw [(hg (k + 1) (by omega)).2]
    refine pr_aload_n 19 dX3_giveOne_18 rfl rfl rfl ?_
    refine pr_getR0 22 dX3_giveOne_19 fX3_18 rfl ?_
    refine pr_iload_n 23 dX3_giveOne_22 rfl rfl rfl ?_
    refine pr_laload (am s.2 k) 24 dX3_giveOne_23 rfl rfl rfl (by omega) rfl ?_
    rw [(hg (am s.2 k) (by omega)).2]
    refine pr_lcmp 25 dX3_giveOne_24 rfl ?_
    have h1 := hb (k + 1); have h2 := hb (am s.2 k)
    refine pr_if_le 30 28 dX3_giveOne_25 rfl rfl (fun c_25 => ?_) (fun c_25 => ?_)
    · refine pr_iinc 33 dX3_giveOne_30 rfl (by first | exact pm_inc _ | rfl) (pm_st_2 rfl rfl) rfl ?_
      refine pr_goto 4 dX3_giveOne_33 rfl ?_
      refine cast ?_ (ih (k + 1) (by omega))
      rw [lg_cmp_le] at c_25
      rw [show am s.2 (k + 1) = if s.2 (am s.2 k) < s.2 (k + 1) then k + 1 else am s.2 k from rfl]
      have h3 := lI_ltI (a := s.2 (am s.2 k)) (b := s.2 (k + 1)) (by omega) (by omega) (by omega) (by omega)
      rw [Int64.lt_iff_toInt_lt] at h3
      rw [Int64.le_iff_toInt_le] at c_25
      first | rw [if_pos (by omega)] | rw [if_neg (by omega)]
    · refine pr_iload_n 29 dX3_giveOne_28 rfl rfl rfl ?_
      refine pr_istore_n 30 dX3_giveOne_29 rfl (pm_st_1 rfl rfl) rfl ?_
      refine pr_iinc 33 dX3_giveOne_30 rfl (by first | exact pm_inc _ | rfl) (pm_st_2 rfl rfl) rfl ?_
      refine pr_goto 4 dX3_giveOne_33 rfl ?_
      refine cast ?_ (ih (k + 1) (by omega))
      rw [lg_cmp_le] at c_25
      rw [show am s.2 (k + 1) = if s.2 (am s.2 k) < s.2 (k + 1) then k + 1 else am s.2 k from rfl]
      have h3 := lI_ltI (a := s.2 (am s.2 k)) (b := s.2 (k + 1)) (by omega) (by omega) (by omega) (by omega)
      rw [Int64.lt_iff_toInt_lt] at h3
      rw [Int64.le_iff_toInt_le] at c_25
      first | rw [if_pos (by omega)] | rw [if_neg (by omega)]
set_option maxRecDepth 100000 in
theorem sp_X3_giveOne {mem : pm_M} {L c : Nat} {s : gT} (hc : mem.1 10003903 L 3 = nI c) (h0 : 0 < c) (h16 : c ≤ 16) (hg : gRow mem L c s) (hb : gBnd s) : Cl yX3_giveOne cX3_giveOne 3 none 0 0 [pR 10003903 L] mem (fun r mem' => r = none ∧ pm_fr (sPar L) mem mem' ∧ gRow mem' L c (g1 c s)) := by
  refine Cl.of (own := RX3) rfl rfl (Nat.le_of_ble_eq_true rfl) rfl ?_; show PR _ _ _ _ _ _ [some _, none, none] _ _ _
  have hm := am_le s.2 (c - 1)
  refine pr_iconst (0) 1 dX3_giveOne_0 (by decide) rfl ?_
  refine pr_istore_n 2 dX3_giveOne_1 rfl (pm_st_1 rfl rfl) rfl ?_
  refine pr_iconst (1) 3 dX3_giveOne_2 (by decide) rfl ?_
  refine pr_istore_n 4 dX3_giveOne_3 rfl (pm_st_2 rfl rfl) rfl ?_
  refine lp_X3_giveOne hc h16 hg hb ?_ (c - 1) 0 (by omega)
  refine pr_aload_n 37 dX3_giveOne_36 rfl rfl rfl ?_
  refine pr_getR0 40 dX3_giveOne_37 fX3_9 rfl ?_
  refine pr_iload_n 41 dX3_giveOne_40 rfl rfl rfl ?_
  refine pr_dup2 rfl rfl 42 dX3_giveOne_41 rfl ?_
  refine pr_iaload (am s.2 (c - 1)) 43 dX3_giveOne_42 rfl rfl rfl (by omega) rfl ?_
  rw [(hg _ (by omega)).1]
  refine pr_iconst (1) 44 dX3_giveOne_43 (by decide) rfl ?_
  refine pr_iadd 45 dX3_giveOne_44 rfl ?_
  rw [show (1 : Int32) = nI 1 from rfl, nI_add]
  refine pr_iastore (am s.2 (c - 1)) 46 dX3_giveOne_45 rfl rfl rfl (by omega) rfl ?_
  refine pr_aload_n 47 dX3_giveOne_46 rfl rfl rfl ?_
  refine pr_getR0 50 dX3_giveOne_47 fX3_18 rfl ?_
  refine pr_iload_n 51 dX3_giveOne_50 rfl rfl rfl ?_
  refine pr_ldc2 _ 54 dX3_giveOne_51 kX3_29 rfl ?_
  refine pr_lastore (am s.2 (c - 1)) 55 dX3_giveOne_54 rfl rfl rfl (by omega) rfl ?_
  refine pr_return dX3_giveOne_55 rfl ?_
  refine ⟨rfl, (pm_fr.rf.uI ⟨Or.inl rfl, rfl⟩).uJ ⟨Or.inr rfl, rfl⟩, fun k hk => ?_⟩
  obtain ⟨a1, a2⟩ := hg k hk
  rw [pm_gJ, pm_gIJ, pm_gI, pm_gJI]
  by_cases e : k = am s.2 (c - 1)
  · subst e
    simp [g1, lI_m1]
  · simp [g1, e, a1, a2]
