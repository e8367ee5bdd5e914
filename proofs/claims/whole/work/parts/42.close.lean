/-! closing a truck's trips -/
section FTL
variable {mem : pm_M} {d k : Nat} {K : Nat → Nat}
theorem eqI {a b : Nat} (ha : a < 2147483648) (hb : b < 2147483648) : nI a = nI b ↔ a = b := nI_eq ha hb
set_option maxRecDepth 100000 in
theorem sp_X0_fuelTold (hd : deskR mem d K) (hW : WF K) (hk : k < 4) : Cd yX0_fuelTold cX0_fuelTold 4 (some .int) 0 0 [pR 10000900 d, pI (nI k)] mem (some (pI (nI (tld K k)))) mem := by
  have h16 := hW.2.2.2.2.1
  have lp : ∀ j t, t + j = K 40 → PR cX0_fuelTold RX0 4 0 0 4 [some (pR 10000900 d), some (pI (nI k)), some (pI (nI (sm (fun t => if K (101 + 6 * t) = k ∧ ¬ K (4 + t) = 0 then K (4 + t) - 1 else 0) t))), some (pI (nI t))] [] mem (pm_RX cX0_fuelTold (some .int) (fun r' m' => r' = some (pI (nI (tld K k))) ∧ m' = mem)) := by
    intro j
    induction j with
    | zero =>
      intro t hj
      have e : t = K 40 := by omega
      subst e
      refine pr_iload_n 5 dX0_fuelTold_4 rfl rfl rfl ?_
      refine pr_aload_n 6 dX0_fuelTold_5 rfl rfl rfl ?_
      refine pr_getI 9 dX0_fuelTold_6 fX0_64 rfl ?_
      rw [hd.2.2.2.2.1]
      refine pr_icmp_ge 47 12 dX0_fuelTold_9 rfl rfl (fun c_9 => ?_) (fun c_9 => absurd (Int32.le_refl _) (c_9))
      refine pr_iload_n 48 dX0_fuelTold_47 rfl rfl rfl ?_
      refine pr_ireturn dX0_fuelTold_48 rfl ?_
      exact ⟨rfl, rfl⟩
    | succ j ih =>
      intro t hj
      obtain ⟨b1, b2, b3⟩ := hd.2.2.2.2.2.2.2.2 t (by omega)
      obtain ⟨a1, a2, -⟩ := hW.2.2.2.2.2.2.2.2.1 t (by omega)
      have h4 := hW.2.2.1
      refine pr_iload_n 5 dX0_fuelTold_4 rfl rfl rfl ?_
      refine pr_aload_n 6 dX0_fuelTold_5 rfl rfl rfl ?_
      refine pr_getI 9 dX0_fuelTold_6 fX0_64 rfl ?_
      rw [hd.2.2.2.2.1]
      refine pr_icmp_ge 47 12 dX0_fuelTold_9 rfl rfl (fun c_9 => absurd (c_9) (nI_ge (by omega) (by omega))) (fun c_9 => ?_)
      refine pr_aload_n 13 dX0_fuelTold_12 rfl rfl rfl ?_
      refine pr_getR0 16 dX0_fuelTold_13 fX0_33 rfl ?_
      refine pr_iload_n 17 dX0_fuelTold_16 rfl rfl rfl ?_
      refine pr_iaload t 18 dX0_fuelTold_17 rfl rfl rfl (by omega) rfl ?_
      rw [b1]
      refine pr_iload_n 19 dX0_fuelTold_18 rfl rfl rfl ?_
      refine pr_icmp_ne 41 22 dX0_fuelTold_19 rfl rfl (fun c_19 => ?_) (fun c_19 => ?_)
      · rw [nI_eq (by omega) (by omega)] at c_19
        refine pr_iinc 44 dX0_fuelTold_41 rfl (by first | exact pm_inc _ | rfl) (pm_st_3 rfl rfl) rfl ?_
        refine pr_goto 4 dX0_fuelTold_44 rfl ?_
        refine cast ?_ (ih (t + 1) (by omega))
        rw [sm, if_neg (fun z => c_19 z.1), Nat.add_zero]
      · refine pr_aload_n 23 dX0_fuelTold_22 rfl rfl rfl ?_
        refine pr_getR0 26 dX0_fuelTold_23 fX0_36 rfl ?_
        refine pr_iload_n 27 dX0_fuelTold_26 rfl rfl rfl ?_
        refine pr_iaload t 28 dX0_fuelTold_27 rfl rfl rfl (by omega) rfl ?_
        rw [b2]
        refine pr_iconst (-1) 29 dX0_fuelTold_28 (by decide) rfl ?_
        refine pr_icmp_eq 41 32 dX0_fuelTold_29 rfl rfl (fun c_29 => ?_) (fun c_29 => ?_)
        · rw [fuI a1] at c_29
          refine pr_iinc 44 dX0_fuelTold_41 rfl (by first | exact pm_inc _ | rfl) (pm_st_3 rfl rfl) rfl ?_
          refine pr_goto 4 dX0_fuelTold_44 rfl ?_
          refine cast ?_ (ih (t + 1) (by omega))
          rw [sm, if_neg (fun z => z.2 c_29), Nat.add_zero]
        · rw [fuI a1] at c_29; rw [nI_eq (by omega) (by omega)] at c_19
          refine pr_iload_n 33 dX0_fuelTold_32 rfl rfl rfl ?_
          refine pr_aload_n 34 dX0_fuelTold_33 rfl rfl rfl ?_
          refine pr_getR0 37 dX0_fuelTold_34 fX0_36 rfl ?_
          refine pr_iload_n 38 dX0_fuelTold_37 rfl rfl rfl ?_
          refine pr_iaload t 39 dX0_fuelTold_38 rfl rfl rfl (by omega) rfl ?_
          rw [b2]
          rw [fuV c_29]
          refine pr_iadd 40 dX0_fuelTold_39 rfl ?_
          rw [nI_add]
          refine pr_istore_n 41 dX0_fuelTold_40 rfl (pm_st_2 rfl rfl) rfl ?_
          refine pr_iinc 44 dX0_fuelTold_41 rfl (by first | exact pm_inc _ | rfl) (pm_st_3 rfl rfl) rfl ?_
          refine pr_goto 4 dX0_fuelTold_44 rfl ?_
          refine cast ?_ (ih (t + 1) (by omega))
          rw [sm, if_pos ⟨c_19, c_29⟩]
  refine Cl.of (own := RX0) rfl rfl (Nat.le_of_ble_eq_true rfl) rfl ?_; show PR _ _ _ _ _ _ [some _, some _, none, none] _ _ _
  refine pr_iconst (0) 1 dX0_fuelTold_0 (by decide) rfl ?_
  refine pr_istore_n 2 dX0_fuelTold_1 rfl (pm_st_2 rfl rfl) rfl ?_
  refine pr_iconst (0) 3 dX0_fuelTold_2 (by decide) rfl ?_
  refine pr_istore_n 4 dX0_fuelTold_3 rfl (pm_st_3 rfl rfl) rfl ?_
  exact lp (K 40) 0 (by omega)
end FTL
section CLS
variable {mem0 : pm_M} {L d M k : Nat} {K w lk : Nat → Nat} {X : Nat → List (Option pm_v) → List pm_v → pm_M → Prop}
def estR (mem : pm_M) (L : Nat) (K : Nat → Nat) : Prop := ∀ t, t < K 40 → mem.1 20016086 L t = nI (est K t)
set_option maxRecDepth 100000 in
theorem sp_X2_sumOfMissing (hd : deskR mem0 d K) (hW : WF K) (hL : ledR mem0 L d w lk M) (he : estR mem0 L K) (hk : k < 4) : Cd yX2_sumOfMissing cX2_sumOfMissing 4 (some .int) 0 0 [pR 10002902 L, pI (nI k)] mem0 (some (pI (nI (mis K k)))) mem0 := by
  have h16 := hW.2.2.2.2.1
  obtain ⟨l1, l2, l3, l4⟩ := hL
  have lp : ∀ j t, t + j = K 40 → PR cX2_sumOfMissing RX2 4 0 0 4 [some (pR 10002902 L), some (pI (nI k)), some (pI (nI (sm (fun t => if K (101 + 6 * t) = k ∧ K (4 + t) = 0 then est K t else 0) t))), some (pI (nI t))] [] mem0 (pm_RX cX2_sumOfMissing (some .int) (fun r' m' => r' = some (pI (nI (mis K k))) ∧ m' = mem0)) := by
    intro j
    induction j with
    | zero =>
      intro t hj
      have e : t = K 40 := by omega
      subst e
      refine pr_iload_n 5 dX2_sumOfMissing_4 rfl rfl rfl ?_
      refine pr_aload_n 6 dX2_sumOfMissing_5 rfl rfl rfl ?_
      refine pr_getP d 9 dX2_sumOfMissing_6 fX2_62 l1 rfl ?_
      refine pr_getI 12 dX2_sumOfMissing_9 fX2_73 rfl ?_
      rw [hd.2.2.2.2.1]
      refine pr_icmp_ge 56 15 dX2_sumOfMissing_12 rfl rfl (fun c_12 => ?_) (fun c_12 => absurd (Int32.le_refl _) (c_12))
      refine pr_iload_n 57 dX2_sumOfMissing_56 rfl rfl rfl ?_
      refine pr_ireturn dX2_sumOfMissing_57 rfl ?_
      exact ⟨rfl, rfl⟩
    | succ j ih =>
      intro t hj
      obtain ⟨b1, b2, b3⟩ := hd.2.2.2.2.2.2.2.2 t (by omega)
      obtain ⟨a1, a2, -⟩ := hW.2.2.2.2.2.2.2.2.1 t (by omega)
      have h4 := hW.2.2.1
      refine pr_iload_n 5 dX2_sumOfMissing_4 rfl rfl rfl ?_
      refine pr_aload_n 6 dX2_sumOfMissing_5 rfl rfl rfl ?_
      refine pr_getP d 9 dX2_sumOfMissing_6 fX2_62 l1 rfl ?_
      refine pr_getI 12 dX2_sumOfMissing_9 fX2_73 rfl ?_
      rw [hd.2.2.2.2.1]
      refine pr_icmp_ge 56 15 dX2_sumOfMissing_12 rfl rfl (fun c_12 => absurd (c_12) (nI_ge (by omega) (by omega))) (fun c_12 => ?_)
      refine pr_aload_n 16 dX2_sumOfMissing_15 rfl rfl rfl ?_
      refine pr_getP d 19 dX2_sumOfMissing_16 fX2_62 l1 rfl ?_
      refine pr_getR0 22 dX2_sumOfMissing_19 fX2_105 rfl ?_
      refine pr_iload_n 23 dX2_sumOfMissing_22 rfl rfl rfl ?_
      refine pr_iaload t 24 dX2_sumOfMissing_23 rfl rfl rfl (by omega) rfl ?_
      rw [b1]
      refine pr_iload_n 25 dX2_sumOfMissing_24 rfl rfl rfl ?_
      refine pr_icmp_ne 50 28 dX2_sumOfMissing_25 rfl rfl (fun c_25 => ?_) (fun c_25 => ?_)
      · rw [nI_eq (by omega) (by omega)] at c_25
        refine pr_iinc 53 dX2_sumOfMissing_50 rfl (by first | exact pm_inc _ | rfl) (pm_st_3 rfl rfl) rfl ?_
        refine pr_goto 4 dX2_sumOfMissing_53 rfl ?_
        refine cast ?_ (ih (t + 1) (by omega))
        rw [sm, if_neg (fun z => c_25 z.1), Nat.add_zero]
      · refine pr_aload_n 29 dX2_sumOfMissing_28 rfl rfl rfl ?_
        refine pr_getP d 32 dX2_sumOfMissing_29 fX2_62 l1 rfl ?_
        refine pr_getR0 35 dX2_sumOfMissing_32 fX2_99 rfl ?_
        refine pr_iload_n 36 dX2_sumOfMissing_35 rfl rfl rfl ?_
        refine pr_iaload t 37 dX2_sumOfMissing_36 rfl rfl rfl (by omega) rfl ?_
        rw [b2]
        refine pr_iconst (-1) 38 dX2_sumOfMissing_37 (by decide) rfl ?_
        refine pr_icmp_ne 50 41 dX2_sumOfMissing_38 rfl rfl (fun c_38 => ?_) (fun c_38 => ?_)
        · rw [fuI a1] at c_38
          refine pr_iinc 53 dX2_sumOfMissing_50 rfl (by first | exact pm_inc _ | rfl) (pm_st_3 rfl rfl) rfl ?_
          refine pr_goto 4 dX2_sumOfMissing_53 rfl ?_
          refine cast ?_ (ih (t + 1) (by omega))
          rw [sm, if_neg (fun z => c_38 z.2), Nat.add_zero]
        · rw [fuI a1] at c_38; rw [nI_eq (by omega) (by omega)] at c_25
          refine pr_iload_n 42 dX2_sumOfMissing_41 rfl rfl rfl ?_
          refine pr_aload_n 43 dX2_sumOfMissing_42 rfl rfl rfl ?_
          refine pr_getR0 46 dX2_sumOfMissing_43 fX2_25 rfl ?_
          refine pr_iload_n 47 dX2_sumOfMissing_46 rfl rfl rfl ?_
          refine pr_iaload t 48 dX2_sumOfMissing_47 rfl rfl rfl (by omega) rfl ?_
          rw [he t (by omega)]
          refine pr_iadd 49 dX2_sumOfMissing_48 rfl ?_
          rw [nI_add]
          refine pr_istore_n 50 dX2_sumOfMissing_49 rfl (pm_st_2 rfl rfl) rfl ?_
          refine pr_iinc 53 dX2_sumOfMissing_50 rfl (by first | exact pm_inc _ | rfl) (pm_st_3 rfl rfl) rfl ?_
          refine pr_goto 4 dX2_sumOfMissing_53 rfl ?_
          refine cast ?_ (ih (t + 1) (by omega))
          rw [sm, if_pos ⟨c_25, c_38⟩]
  refine Cl.of (own := RX2) rfl rfl (Nat.le_of_ble_eq_true rfl) rfl ?_; show PR _ _ _ _ _ _ [some _, some _, none, none] _ _ _
  refine pr_iconst (0) 1 dX2_sumOfMissing_0 (by decide) rfl ?_
  refine pr_istore_n 2 dX2_sumOfMissing_1 rfl (pm_st_2 rfl rfl) rfl ?_
  refine pr_iconst (0) 3 dX2_sumOfMissing_2 (by decide) rfl ?_
  refine pr_istore_n 4 dX2_sumOfMissing_3 rfl (pm_st_3 rfl rfl) rfl ?_
  exact lp (K 40) 0 (by omega)
set_option maxRecDepth 100000 in
theorem sp_X2_isParted (hd : deskR mem0 d K) (hW : WF K) (hL : ledR mem0 L d w lk M) {t : Nat} (ht : t < K 40) (hk : k < 4) : Cd yX2_isParted cX2_isParted 4 (some .boolean) 0 0 [pR 10002902 L, pI (nI t), pI (nI k), pI (if kpt K k = true then 1 else 0)] mem0 (some (pI (if sel K k t = true then 1 else 0))) mem0 := by
  have h16 := hW.2.2.2.2.1
  obtain ⟨l1, l2, l3, l4⟩ := hL
  obtain ⟨b1, b2, b3⟩ := hd.2.2.2.2.2.2.2.2 t (by omega)
  obtain ⟨a1, a2, -⟩ := hW.2.2.2.2.2.2.2.2.1 t (by omega)
  have h4 := hW.2.2.1
  have hk1 : (if kpt K k = true then (1 : Int32) else 0) = 0 ↔ ¬ kpt K k = true := by
    by_cases z : kpt K k = true <;> simp [z]
  refine Cl.of (own := RX2) rfl rfl (Nat.le_of_ble_eq_true rfl) rfl ?_; show PR _ _ _ _ _ _ [some _, some _, some _, some _] _ _ _
  refine pr_aload_n 1 dX2_isParted_0 rfl rfl rfl ?_
  refine pr_getP d 4 dX2_isParted_1 fX2_62 l1 rfl ?_
  refine pr_getR0 7 dX2_isParted_4 fX2_105 rfl ?_
  refine pr_iload_n 8 dX2_isParted_7 rfl rfl rfl ?_
  refine pr_iaload t 9 dX2_isParted_8 rfl rfl rfl (by omega) rfl ?_
  rw [b1]
  refine pr_iload_n 10 dX2_isParted_9 rfl rfl rfl ?_
  refine pr_icmp_ne 34 13 dX2_isParted_10 rfl rfl (fun c_10 => ?_) (fun c_10 => ?_)
  · rw [nI_eq (by omega) (by omega)] at c_10
    refine pr_iconst (0) 35 dX2_isParted_34 (by decide) rfl ?_
    refine pr_zreturn dX2_isParted_35 rfl (by first | exact Or.inl rfl | exact Or.inr rfl) ?_
    refine ⟨?_, rfl⟩
    simp [sel, c_10]
  · rw [nI_eq (by omega) (by omega)] at c_10
    refine pr_iload_n 14 dX2_isParted_13 rfl rfl rfl ?_
    refine pr_if_eq 30 17 dX2_isParted_14 rfl rfl (fun c_14 => ?_) (fun c_14 => ?_)
    · rw [hk1] at c_14
      refine pr_iconst (1) 31 dX2_isParted_30 (by decide) rfl ?_
      refine pr_goto 35 dX2_isParted_31 rfl ?_
      refine pr_zreturn dX2_isParted_35 rfl (by first | exact Or.inl rfl | exact Or.inr rfl) ?_
      refine ⟨?_, rfl⟩
      simp [sel, c_10, c_14]
    · rw [hk1, Decidable.not_not] at c_14
      refine pr_aload_n 18 dX2_isParted_17 rfl rfl rfl ?_
      refine pr_getP d 21 dX2_isParted_18 fX2_62 l1 rfl ?_
      refine pr_getR0 24 dX2_isParted_21 fX2_99 rfl ?_
      refine pr_iload_n 25 dX2_isParted_24 rfl rfl rfl ?_
      refine pr_iaload t 26 dX2_isParted_25 rfl rfl rfl (by omega) rfl ?_
      rw [b2]
      refine pr_iconst (-1) 27 dX2_isParted_26 (by decide) rfl ?_
      refine pr_icmp_ne 34 30 dX2_isParted_27 rfl rfl (fun c_27 => ?_) (fun c_27 => ?_)
      · rw [fuI a1] at c_27
        refine pr_iconst (0) 35 dX2_isParted_34 (by decide) rfl ?_
        refine pr_zreturn dX2_isParted_35 rfl (by first | exact Or.inl rfl | exact Or.inr rfl) ?_
        refine ⟨?_, rfl⟩
        simp [sel, c_10, c_14, c_27]
      · rw [fuI a1] at c_27
        refine pr_iconst (1) 31 dX2_isParted_30 (by decide) rfl ?_
        refine pr_goto 35 dX2_isParted_31 rfl ?_
        refine pr_zreturn dX2_isParted_35 rfl (by first | exact Or.inl rfl | exact Or.inr rfl) ?_
        refine ⟨?_, rfl⟩
        simp [sel, c_10, c_14, c_27]
end CLS
