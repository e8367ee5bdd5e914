/-! the class: Routes.clear -/
section RCL
variable {mem mem0 : pm_M}
def sZr : Nat → Nat → Prop := fun t i => (t ∈ [10005905, 20016201, 20016202, 20016203, 20016204, 20016209, 20016210, 20016211] ∧ i = 0) ∨ (t = 20012608 ∧ i < 16) ∨ (t = 20012607 ∧ i < 12)
def zA (mem : pm_M) (k : Nat) : Prop := ∀ u, u < k → mem.1 20016201 0 u = 0 ∧ mem.1 20016202 0 u = 0 ∧ mem.1 20016203 0 u = 0 ∧ mem.1 20016204 0 u = 0
def zB (mem : pm_M) (k : Nat) : Prop := ∀ l, l < k → mem.1 20016209 0 l = 0 ∧ mem.1 20016210 0 l = 0 ∧ mem.1 20016211 0 l = 0 ∧ ∀ p, p < 12 → mem.1 20012608 l p = 0
def zC (mem : pm_M) (k : Nat) : Prop := ∀ a, a < k → ∀ b, b < 12 → mem.1 20012607 a b = 0
def zO (mem0 mem : pm_M) : Prop := pm_fr sZr mem0 mem ∧ mem.2.2 = mem0.2.2 ∧ mem.1 10005905 0 12 = 0
def clP (mem0 : pm_M) : Option pm_v → pm_M → Prop := fun r mem => r = none ∧ zO mem0 mem ∧ zA mem 16 ∧ zB mem 16 ∧ zC mem 12
set_option maxRecDepth 100000 in
theorem sp_X5_clear : Cl yX5_clear cX5_clear 3 none 0 0 [pR 10005905 0] mem0 (clP mem0) := by
  have zOu : ∀ mem t i k x, zO mem0 mem → sZr t i → t ≠ 10005905 → zO mem0 (pm_uI mem t i k x) := fun mem t i k x h hs ht => ⟨h.1.uI hs, h.2.1, by rw [pm_gIn (fun z => ht z.1.symm)]; exact h.2.2⟩
  have lC2 : ∀ j b a mem, b + j = 12 → a < 12 → zO mem0 mem → zA mem 16 → zB mem 16 → zC mem a → (∀ q, q < b → mem.1 20012607 a q = 0) → (∀ mem', zO mem0 mem' → zA mem' 16 → zB mem' 16 → zC mem' (a + 1) → ∀ a2, PR cX5_clear RX5 3 0 0 107 [some (pR 10005905 0), some (pI (nI (a + 1))), some (pI a2)] [] mem' (pm_RX cX5_clear none (clP mem0))) → PR cX5_clear RX5 3 0 0 115 [some (pR 10005905 0), some (pI (nI a)), some (pI (nI b))] [] mem (pm_RX cX5_clear none (clP mem0)) := by
    intro j
    induction j with
    | zero =>
      intro b a mem hj ha h0 hA hB hC hb hk
      have e : b = 12 := by omega
      subst e
      refine pr_iload_n 116 dX5_clear_115 rfl rfl rfl ?_
      refine pr_bipush (12) 118 dX5_clear_116 (by decide) rfl ?_
      refine pr_icmp_ge 136 121 dX5_clear_118 rfl rfl (fun c_118 => ?_) (fun c_118 => absurd (by decide) (c_118))
      refine pr_iinc 139 dX5_clear_136 rfl (by first | exact pm_inc _ | rfl) (pm_st_1 rfl rfl) rfl ?_
      refine pr_goto 107 dX5_clear_139 rfl ?_
      refine hk mem h0 hA hB (fun q hq => ?_) _
      by_cases z : q = a
      · subst z; exact hb
      · exact hC q (by omega)
    | succ j ih =>
      intro b a mem hj ha h0 hA hB hC hb hk
      refine pr_iload_n 116 dX5_clear_115 rfl rfl rfl ?_
      refine pr_bipush (12) 118 dX5_clear_116 (by decide) rfl ?_
      refine pr_icmp_ge 136 121 dX5_clear_118 rfl rfl (fun c_118 => absurd (c_118) (nI_ge (b := 12) (by omega) (by omega))) (fun c_118 => ?_)
      refine pr_aload_n 122 dX5_clear_121 rfl rfl rfl ?_
      refine pr_getR0 125 dX5_clear_122 fX5_32 rfl ?_
      refine pr_iload_n 126 dX5_clear_125 rfl rfl rfl ?_
      first | refine pr_aaload0 (n := 12) a 20012607 127 dX5_clear_126 rfl rfl rfl rfl (by omega) rfl ?_ | refine pr_aaload (n := 12) a 20012607 127 dX5_clear_126 rfl rfl rfl rfl (by omega) rfl ?_
      refine pr_iload_n 128 dX5_clear_127 rfl rfl rfl ?_
      refine pr_iconst (0) 129 dX5_clear_128 (by decide) rfl ?_
      refine pr_iastore b 130 dX5_clear_129 rfl rfl rfl (by omega) rfl ?_
      refine pr_iinc 133 dX5_clear_130 rfl (by first | exact pm_inc _ | rfl) (pm_st_2 rfl rfl) rfl ?_
      refine pr_goto 115 dX5_clear_133 rfl ?_
      refine ih (b + 1) a _ (by omega) ha (zOu _ _ _ _ _ h0 (Or.inr (Or.inr ⟨rfl, by omega⟩)) (by decide)) (fun u hu => ?_) (fun l hl => ?_) (fun q hq r hr => ?_) (fun q hq => ?_) hk
      · simpa [pm_gI] using hA u hu
      · simpa [pm_gI] using hB l hl
      · have : ¬ q = a := by omega
        simpa [pm_gI, this] using hC q hq r hr
      · by_cases z : q = b
        · subst z; rw [pm_gIe]
        · rw [pm_gIn (fun y => z y.2.2)]; exact hb q (by omega)
  have lC : ∀ j a mem a2, a + j = 12 → zO mem0 mem → zA mem 16 → zB mem 16 → zC mem a → PR cX5_clear RX5 3 0 0 107 [some (pR 10005905 0), some (pI (nI a)), some (pI a2)] [] mem (pm_RX cX5_clear none (clP mem0)) := by
    intro j
    induction j with
    | zero =>
      intro a mem a2 hj h0 hA hB hC
      have e : a = 12 := by omega
      subst e
      refine pr_iload_n 108 dX5_clear_107 rfl rfl rfl ?_
      refine pr_bipush (12) 110 dX5_clear_108 (by decide) rfl ?_
      refine pr_icmp_ge 142 113 dX5_clear_110 rfl rfl (fun c_110 => ?_) (fun c_110 => absurd (by decide) (c_110))
      refine pr_return dX5_clear_142 rfl ?_
      exact ⟨rfl, h0, hA, hB, hC⟩
    | succ j ih =>
      intro a mem a2 hj h0 hA hB hC
      refine pr_iload_n 108 dX5_clear_107 rfl rfl rfl ?_
      refine pr_bipush (12) 110 dX5_clear_108 (by decide) rfl ?_
      refine pr_icmp_ge 142 113 dX5_clear_110 rfl rfl (fun c_110 => absurd (c_110) (nI_ge (b := 12) (by omega) (by omega))) (fun c_110 => ?_)
      refine pr_iconst (0) 114 dX5_clear_113 (by decide) rfl ?_
      refine pr_istore_n 115 dX5_clear_114 rfl (pm_st_2 rfl rfl) rfl ?_
      exact lC2 12 0 a mem (by omega) (by omega) h0 hA hB hC (fun q hq => absurd hq (Nat.not_lt_zero _)) (fun mem' h0 hA hB hC a2 => ih (a + 1) mem' a2 (by omega) h0 hA hB hC)
  have lB2 : ∀ j b a mem, b + j = 12 → a < 16 → zO mem0 mem → zA mem 16 → zB mem a → (mem.1 20016209 0 a = 0 ∧ mem.1 20016210 0 a = 0 ∧ mem.1 20016211 0 a = 0) → (∀ q, q < b → mem.1 20012608 a q = 0) → (∀ mem', zO mem0 mem' → zA mem' 16 → zB mem' (a + 1) → ∀ a2, PR cX5_clear RX5 3 0 0 49 [some (pR 10005905 0), some (pI (nI (a + 1))), some (pI a2)] [] mem' (pm_RX cX5_clear none (clP mem0))) → PR cX5_clear RX5 3 0 0 78 [some (pR 10005905 0), some (pI (nI a)), some (pI (nI b))] [] mem (pm_RX cX5_clear none (clP mem0)) := by
    intro j
    induction j with
    | zero =>
      intro b a mem hj ha h0 hA hB h3 hb hk
      have e : b = 12 := by omega
      subst e
      refine pr_iload_n 79 dX5_clear_78 rfl rfl rfl ?_
      refine pr_bipush (12) 81 dX5_clear_79 (by decide) rfl ?_
      refine pr_icmp_ge 99 84 dX5_clear_81 rfl rfl (fun c_81 => ?_) (fun c_81 => absurd (by decide) (c_81))
      refine pr_iinc 102 dX5_clear_99 rfl (by first | exact pm_inc _ | rfl) (pm_st_1 rfl rfl) rfl ?_
      refine pr_goto 49 dX5_clear_102 rfl ?_
      refine hk mem h0 hA (fun q hq => ?_) _
      by_cases z : q = a
      · subst z; exact ⟨h3.1, h3.2.1, h3.2.2, hb⟩
      · exact hB q (by omega)
    | succ j ih =>
      intro b a mem hj ha h0 hA hB h3 hb hk
      refine pr_iload_n 79 dX5_clear_78 rfl rfl rfl ?_
      refine pr_bipush (12) 81 dX5_clear_79 (by decide) rfl ?_
      refine pr_icmp_ge 99 84 dX5_clear_81 rfl rfl (fun c_81 => absurd (c_81) (nI_ge (b := 12) (by omega) (by omega))) (fun c_81 => ?_)
      refine pr_aload_n 85 dX5_clear_84 rfl rfl rfl ?_
      refine pr_getR0 88 dX5_clear_85 fX5_35 rfl ?_
      refine pr_iload_n 89 dX5_clear_88 rfl rfl rfl ?_
      first | refine pr_aaload0 (n := 16) a 20012608 90 dX5_clear_89 rfl rfl rfl rfl (by omega) rfl ?_ | refine pr_aaload (n := 16) a 20012608 90 dX5_clear_89 rfl rfl rfl rfl (by omega) rfl ?_
      refine pr_iload_n 91 dX5_clear_90 rfl rfl rfl ?_
      refine pr_iconst (0) 92 dX5_clear_91 (by decide) rfl ?_
      refine pr_iastore b 93 dX5_clear_92 rfl rfl rfl (by omega) rfl ?_
      refine pr_iinc 96 dX5_clear_93 rfl (by first | exact pm_inc _ | rfl) (pm_st_2 rfl rfl) rfl ?_
      refine pr_goto 78 dX5_clear_96 rfl ?_
      refine ih (b + 1) a _ (by omega) ha (zOu _ _ _ _ _ h0 (Or.inr (Or.inl ⟨rfl, by omega⟩)) (by decide)) (fun u hu => ?_) (fun l hl => ?_) ?_ (fun q hq => ?_) hk
      · simpa [pm_gI] using hA u hu
      · have : ¬ l = a := by omega
        simpa [pm_gI, this] using hB l hl
      · simpa [pm_gI] using h3
      · by_cases z : q = b
        · subst z; rw [pm_gIe]
        · rw [pm_gIn (fun y => z y.2.2)]; exact hb q (by omega)
  have lB : ∀ j a mem (a2 : Option pm_v), a + j = 16 → zO mem0 mem → zA mem 16 → zB mem a → (a2 = none ∨ ∃ z, a2 = some (pI z)) → PR cX5_clear RX5 3 0 0 49 [some (pR 10005905 0), some (pI (nI a)), a2] [] mem (pm_RX cX5_clear none (clP mem0)) := by
    intro j
    induction j with
    | zero =>
      intro a mem a2 hj h0 hA hB h2
      have e : a = 16 := by omega
      subst e
      have key : ∀ a2 : Option pm_v, PR cX5_clear RX5 3 0 0 107 [some (pR 10005905 0), some (pI (nI 0)), a2] [] mem (pm_RX cX5_clear none (clP mem0)) := by
        intro a2
        refine pr_iload_n 108 dX5_clear_107 rfl rfl rfl ?_
        refine pr_bipush (12) 110 dX5_clear_108 (by decide) rfl ?_
        refine pr_icmp_ge 142 113 dX5_clear_110 rfl rfl (fun c_110 => absurd (c_110) (by decide)) (fun c_110 => ?_)
        refine pr_iconst (0) 114 dX5_clear_113 (by decide) rfl ?_
        refine pr_istore_n 115 dX5_clear_114 rfl (pm_st_2 rfl rfl) rfl ?_
        exact lC2 12 0 0 mem (by omega) (by omega) h0 hA hB (fun q hq => absurd hq (Nat.not_lt_zero _)) (fun q hq => absurd hq (Nat.not_lt_zero _)) (fun mem' h0 hA hB hC a2 => lC 11 1 mem' a2 (by omega) h0 hA hB hC)
      refine pr_iload_n 50 dX5_clear_49 rfl rfl rfl ?_
      refine pr_bipush (16) 52 dX5_clear_50 (by decide) rfl ?_
      refine pr_icmp_ge 105 55 dX5_clear_52 rfl rfl (fun c_52 => ?_) (fun c_52 => absurd (by decide) (c_52))
      refine pr_iconst (0) 106 dX5_clear_105 (by decide) rfl ?_
      refine pr_istore_n 107 dX5_clear_106 rfl (pm_st_1 rfl rfl) rfl ?_
      exact key a2
    | succ j ih =>
      intro a mem a2 hj h0 hA hB h2
      refine pr_iload_n 50 dX5_clear_49 rfl rfl rfl ?_
      refine pr_bipush (16) 52 dX5_clear_50 (by decide) rfl ?_
      refine pr_icmp_ge 105 55 dX5_clear_52 rfl rfl (fun c_52 => absurd (c_52) (nI_ge (b := 16) (by omega) (by omega))) (fun c_52 => ?_)
      refine pr_aload_n 56 dX5_clear_55 rfl rfl rfl ?_
      refine pr_getR0 59 dX5_clear_56 fX5_38 rfl ?_
      refine pr_iload_n 60 dX5_clear_59 rfl rfl rfl ?_
      refine pr_iconst (0) 61 dX5_clear_60 (by decide) rfl ?_
      refine pr_iastore a 62 dX5_clear_61 rfl rfl rfl (by omega) rfl ?_
      refine pr_aload_n 63 dX5_clear_62 rfl rfl rfl ?_
      refine pr_getR0 66 dX5_clear_63 fX5_41 rfl ?_
      refine pr_iload_n 67 dX5_clear_66 rfl rfl rfl ?_
      refine pr_iconst (0) 68 dX5_clear_67 (by decide) rfl ?_
      refine pr_iastore a 69 dX5_clear_68 rfl rfl rfl (by omega) rfl ?_
      refine pr_aload_n 70 dX5_clear_69 rfl rfl rfl ?_
      refine pr_getR0 73 dX5_clear_70 fX5_44 rfl ?_
      refine pr_iload_n 74 dX5_clear_73 rfl rfl rfl ?_
      refine pr_iconst (0) 75 dX5_clear_74 (by decide) rfl ?_
      refine pr_iastore a 76 dX5_clear_75 rfl rfl rfl (by omega) rfl ?_
      refine pr_iconst (0) 77 dX5_clear_76 (by decide) rfl ?_
      refine pr_istore_n 78 dX5_clear_77 rfl (pm_st_2 rfl rfl) rfl ?_
      refine lB2 12 0 a _ (by omega) (by omega) (zOu _ _ _ _ _ (zOu _ _ _ _ _ (zOu _ _ _ _ _ h0 (Or.inl ⟨by simp, rfl⟩) (by decide)) (Or.inl ⟨by simp, rfl⟩) (by decide)) (Or.inl ⟨by simp, rfl⟩) (by decide)) (fun u hu => ?_) (fun l hl => ?_) ?_ (fun q hq => absurd hq (Nat.not_lt_zero _)) (fun mem' h0 hA hB a2 => ih (a + 1) mem' (some (pI a2)) (by omega) h0 hA hB (Or.inr ⟨_, rfl⟩))
      · simpa [pm_gI] using hA u hu
      · have : ¬ l = a := by omega
        simpa [pm_gI, this] using hB l hl
      · simp [pm_gI]
  have lA : ∀ j a mem, a + j = 16 → zO mem0 mem → zA mem a → PR cX5_clear RX5 3 0 0 7 [some (pR 10005905 0), some (pI (nI a)), none] [] mem (pm_RX cX5_clear none (clP mem0)) := by
    intro j
    induction j with
    | zero =>
      intro a mem hj h0 hA
      have e : a = 16 := by omega
      subst e
      refine pr_iload_n 8 dX5_clear_7 rfl rfl rfl ?_
      refine pr_bipush (16) 10 dX5_clear_8 (by decide) rfl ?_
      refine pr_icmp_ge 47 13 dX5_clear_10 rfl rfl (fun c_10 => ?_) (fun c_10 => absurd (by decide) (c_10))
      refine pr_iconst (0) 48 dX5_clear_47 (by decide) rfl ?_
      refine pr_istore_n 49 dX5_clear_48 rfl (pm_st_1 rfl rfl) rfl ?_
      exact lB 16 0 mem none (by omega) h0 hA (fun q hq => absurd hq (Nat.not_lt_zero _)) (Or.inl rfl)
    | succ j ih =>
      intro a mem hj h0 hA
      refine pr_iload_n 8 dX5_clear_7 rfl rfl rfl ?_
      refine pr_bipush (16) 10 dX5_clear_8 (by decide) rfl ?_
      refine pr_icmp_ge 47 13 dX5_clear_10 rfl rfl (fun c_10 => absurd (c_10) (nI_ge (b := 16) (by omega) (by omega))) (fun c_10 => ?_)
      refine pr_aload_n 14 dX5_clear_13 rfl rfl rfl ?_
      refine pr_getR0 17 dX5_clear_14 fX5_9 rfl ?_
      refine pr_iload_n 18 dX5_clear_17 rfl rfl rfl ?_
      refine pr_iconst (0) 19 dX5_clear_18 (by decide) rfl ?_
      refine pr_iastore a 20 dX5_clear_19 rfl rfl rfl (by omega) rfl ?_
      refine pr_aload_n 21 dX5_clear_20 rfl rfl rfl ?_
      refine pr_getR0 24 dX5_clear_21 fX5_15 rfl ?_
      refine pr_iload_n 25 dX5_clear_24 rfl rfl rfl ?_
      refine pr_iconst (0) 26 dX5_clear_25 (by decide) rfl ?_
      refine pr_iastore a 27 dX5_clear_26 rfl rfl rfl (by omega) rfl ?_
      refine pr_aload_n 28 dX5_clear_27 rfl rfl rfl ?_
      refine pr_getR0 31 dX5_clear_28 fX5_18 rfl ?_
      refine pr_iload_n 32 dX5_clear_31 rfl rfl rfl ?_
      refine pr_iconst (0) 33 dX5_clear_32 (by decide) rfl ?_
      refine pr_iastore a 34 dX5_clear_33 rfl rfl rfl (by omega) rfl ?_
      refine pr_aload_n 35 dX5_clear_34 rfl rfl rfl ?_
      refine pr_getR0 38 dX5_clear_35 fX5_21 rfl ?_
      refine pr_iload_n 39 dX5_clear_38 rfl rfl rfl ?_
      refine pr_iconst (0) 40 dX5_clear_39 (by decide) rfl ?_
      refine pr_iastore a 41 dX5_clear_40 rfl rfl rfl (by omega) rfl ?_
      refine pr_iinc 44 dX5_clear_41 rfl (by first | exact pm_inc _ | rfl) (pm_st_1 rfl rfl) rfl ?_
      refine pr_goto 7 dX5_clear_44 rfl ?_
      refine ih (a + 1) _ (by omega) (zOu _ _ _ _ _ (zOu _ _ _ _ _ (zOu _ _ _ _ _ (zOu _ _ _ _ _ h0 (Or.inl ⟨by simp, rfl⟩) (by decide)) (Or.inl ⟨by simp, rfl⟩) (by decide)) (Or.inl ⟨by simp, rfl⟩) (by decide)) (Or.inl ⟨by simp, rfl⟩) (by decide)) (fun u hu => ?_)
      by_cases z : u = a
      · subst z
        simp [pm_gI]
      · simpa [pm_gI, z] using hA u (by omega)
  refine Cl.of (own := RX5) rfl rfl (Nat.le_of_ble_eq_true rfl) rfl ?_; show PR _ _ _ _ _ _ [some _, none, none] _ _ _
  refine pr_aload_n 1 dX5_clear_0 rfl rfl rfl ?_
  refine pr_iconst (0) 2 dX5_clear_1 (by decide) rfl ?_
  refine pr_putI 5 dX5_clear_2 fX5_85 rfl ?_
  refine pr_iconst (0) 6 dX5_clear_5 (by decide) rfl ?_
  refine pr_istore_n 7 dX5_clear_6 rfl (pm_st_1 rfl rfl) rfl ?_
  exact lA 16 0 _ (by omega) ⟨pm_fr.rf.uI (Or.inl ⟨by simp, rfl⟩), rfl, pm_gIe⟩ (fun q hq => absurd hq (Nat.not_lt_zero _))
end RCL
