/-! Parter.divide -/
section DIV
variable {mem0 : pm_M} {L c n : Nat} {m : Nat → Nat} {X : Nat → List (Option pm_v) → List pm_v → pm_M → Prop}
theorem fr_cnt {mem : pm_M} (hc : mem0.1 10003903 L 3 = nI c) (hf : pm_fr (sPar L) mem0 mem) : mem.1 10003903 L 3 = nI c := by
  rw [(hf 10003903 L (by simp [sPar])).1]; exact hc
theorem fr_mea {mem : pm_M} (hm : ∀ k, k < c → mem0.1 20016121 L k = nI (m k)) (hf : pm_fr (sPar L) mem0 mem) {k : Nat} (hk : k < c) : mem.1 20016121 L k = nI (m k) := by
  rw [(hf 20016121 L (by simp [sPar])).1]; exact hm k hk
set_option maxRecDepth 100000 in
theorem lp_X3_div1 (hc : mem0.1 10003903 L 3 = nI c) (h16 : c ≤ 16) (hm : ∀ k, k < c → mem0.1 20016121 L k = nI (m k)) (hmb : ∀ k, k < c → m k < 2147483648)
    (hk : ∀ mem, pm_fr (sPar L) mem0 mem → (∀ k, k < c → mem.1 20016120 L k = 0) → PR cX3_divide RX3 8 1 22 39 [some (pR 10003903 L), some (pI (nI n)), some (pJ (lN (sm m c))), none, some (pI (nI c)), none, none, none] [] mem X) :
    ∀ j k mem, k + j = c → pm_fr (sPar L) mem0 mem → (∀ i, i < k → mem.1 20016120 L i = 0) → PR cX3_divide RX3 8 1 22 5 [some (pR 10003903 L), some (pI (nI n)), some (pJ (lN (sm m k))), none, some (pI (nI k)), none, none, none] [] mem X := by
  intro j
  induction j with
  | zero =>
    intro k mem hj hf hz
    have e : c = k := by omega
    subst e
    refine pr_iload 7 dX3_divide_5 rfl rfl ?_
    refine pr_aload_n 8 dX3_divide_7 rfl rfl rfl ?_
    refine pr_getI 11 dX3_divide_8 fX3_22 rfl ?_
    rw [fr_cnt hc hf]
    refine pr_icmp_ge 39 14 dX3_divide_11 rfl rfl (fun c_11 => ?_) (fun c_11 => absurd (nI_le (Nat.le_refl _) (by omega)) (c_11))
    exact hk mem hf hz
  | succ j ih =>
    intro k mem hj hf hz
    refine pr_iload 7 dX3_divide_5 rfl rfl ?_
    refine pr_aload_n 8 dX3_divide_7 rfl rfl rfl ?_
    refine pr_getI 11 dX3_divide_8 fX3_22 rfl ?_
    rw [fr_cnt hc hf]
    refine pr_icmp_ge 39 14 dX3_divide_11 rfl rfl (fun c_11 => absurd (c_11) (nI_ge (by omega) (by omega))) (fun c_11 => ?_)
    refine pr_lload_n 15 dX3_divide_14 rfl rfl rfl ?_
    refine pr_aload_n 16 dX3_divide_15 rfl rfl rfl ?_
    refine pr_getR0 19 dX3_divide_16 fX3_15 rfl ?_
    refine pr_iload 21 dX3_divide_19 rfl rfl ?_
    refine pr_iaload k 22 dX3_divide_21 rfl rfl rfl (by omega) rfl ?_
    rw [fr_mea hm hf (by omega)]
    refine pr_i2l 23 dX3_divide_22 rfl ?_
    rw [nI_l (hmb k (by omega))]
    refine pr_ladd 24 dX3_divide_23 rfl ?_
    rw [lN_add]
    refine pr_lstore_n 25 dX3_divide_24 rfl (pm_st2_2 rfl) rfl ?_
    refine pr_aload_n 26 dX3_divide_25 rfl rfl rfl ?_
    refine pr_getR0 29 dX3_divide_26 fX3_9 rfl ?_
    refine pr_iload 31 dX3_divide_29 rfl rfl ?_
    refine pr_iconst (0) 32 dX3_divide_31 (by decide) rfl ?_
    refine pr_iastore k 33 dX3_divide_32 rfl rfl rfl (by omega) rfl ?_
    refine pr_iinc 36 dX3_divide_33 rfl (by first | exact pm_inc _ | rfl) (pm_st_4 rfl rfl) rfl ?_
    refine pr_goto 5 dX3_divide_36 rfl ?_
    refine ih (k + 1) _ (by omega) (hf.uI ⟨Or.inl rfl, rfl⟩) (fun i hi => ?_)
    rw [pm_gI]
    by_cases e : i = k
    · simp [e]
    · simp [e]; exact hz i (by omega)
set_option maxRecDepth 100000 in
theorem lp_X3_div2 (hc : mem0.1 10003903 L 3 = nI c) (h16 : c ≤ 16) (hm : ∀ k, k < c → mem0.1 20016121 L k = nI (m k)) (hmb : ∀ k, k < c → m k < 2147483648) (hn : n < 2147483648) (hS : 0 < sm m c)
    (hk : ∀ mem, pm_fr (sPar L) mem0 mem → gRow mem L c (g0 n (sm m c) m) → PR cX3_divide RX3 8 1 22 122 [some (pR 10003903 L), some (pI (nI n)), some (pJ (lN (sm m c))), none, some (pI (nI (lf n c m))), some (pI (nI c)), some (pJ (lN (n * m (c - 1)))), none] [] mem X) :
    ∀ j k mem a6, k + 1 + j = c → pm_fr (sPar L) mem0 mem → gRow mem L k (g0 n (sm m c) m) → PR cX3_divide RX3 8 1 22 59 [some (pR 10003903 L), some (pI (nI n)), some (pJ (lN (sm m c))), none, some (pI (nI (n - sm (fun k => n * m k / sm m c) k))), some (pI (nI k)), a6, none] [] mem X := by
  have hsum := (pa_sum (n := n) hS).1
  have hSb : sm m c < 2 ^ 36 := by
    have : sm m c ≤ sm (fun _ => 2147483648) c := sm_le (fun k hk => by have := hmb k hk; omega)
    rw [sm_const] at this
    omega
  have hcnt : 0 < c := by
    rcases Nat.eq_zero_or_pos c with z | z
    · subst z; simp [sm] at hS
    · exact z
  have step : ∀ k mem a6, k < c → pm_fr (sPar L) mem0 mem → gRow mem L k (g0 n (sm m c) m) → (∀ mem, pm_fr (sPar L) mem0 mem → gRow mem L (k + 1) (g0 n (sm m c) m) → PR cX3_divide RX3 8 1 22 59 [some (pR 10003903 L), some (pI (nI n)), some (pJ (lN (sm m c))), none, some (pI (nI (n - sm (fun k => n * m k / sm m c) (k + 1)))), some (pI (nI (k + 1))), some (pJ (lN (n * m k))), none] [] mem X) → PR cX3_divide RX3 8 1 22 59 [some (pR 10003903 L), some (pI (nI n)), some (pJ (lN (sm m c))), none, some (pI (nI (n - sm (fun k => n * m k / sm m c) k))), some (pI (nI k)), a6, none] [] mem X := by
    intro k mem a6 hkc hf hg hk2
    have hp : n * m k < 2 ^ 63 := by
      have h1 := hmb k hkc
      calc n * m k ≤ 2147483648 * 2147483648 := Nat.mul_le_mul (by omega) (by omega)
        _ < 2 ^ 63 := by decide
    have hle : sm (fun k => n * m k / sm m c) (k + 1) ≤ n := Nat.le_trans (sm_mono (by omega)) hsum
    have hne : ¬ lN (sm m c) = 0 := fun z => by
      have := (lN_eqI (a := sm m c) (b := 0) (by omega) (by omega)).mp z
      omega
    refine pr_iload 61 dX3_divide_59 rfl rfl ?_
    refine pr_aload_n 62 dX3_divide_61 rfl rfl rfl ?_
    refine pr_getI 65 dX3_divide_62 fX3_22 rfl ?_
    rw [fr_cnt hc hf]
    refine pr_icmp_ge 122 68 dX3_divide_65 rfl rfl (fun c_65 => absurd (c_65) (nI_ge (by omega) (by omega))) (fun c_65 => ?_)
    refine pr_iload_n 69 dX3_divide_68 rfl rfl rfl ?_
    refine pr_i2l 70 dX3_divide_69 rfl ?_
    rw [nI_l hn]
    refine pr_aload_n 71 dX3_divide_70 rfl rfl rfl ?_
    refine pr_getR0 74 dX3_divide_71 fX3_15 rfl ?_
    refine pr_iload 76 dX3_divide_74 rfl rfl ?_
    refine pr_iaload k 77 dX3_divide_76 rfl rfl rfl (by omega) rfl ?_
    rw [fr_mea hm hf hkc]
    refine pr_i2l 78 dX3_divide_77 rfl ?_
    rw [nI_l (hmb k hkc)]
    refine pr_lmul 79 dX3_divide_78 rfl ?_
    rw [lN_mul]
    refine pr_lstore 81 dX3_divide_79 (pm_st2_6 rfl) rfl ?_
    refine pr_aload_n 82 dX3_divide_81 rfl rfl rfl ?_
    refine pr_getR0 85 dX3_divide_82 fX3_9 rfl ?_
    refine pr_iload 87 dX3_divide_85 rfl rfl ?_
    refine pr_lload 89 dX3_divide_87 rfl rfl ?_
    refine pr_lload_n 90 dX3_divide_89 rfl rfl rfl ?_
    refine pr_ldiv (hne) 91 dX3_divide_90 rfl ?_
    rw [lN_div hp (by omega)]
    refine pr_l2i 92 dX3_divide_91 rfl ?_
    rw [lN_i]
    refine pr_iastore k 93 dX3_divide_92 rfl rfl rfl (by omega) rfl ?_
    refine pr_aload_n 94 dX3_divide_93 rfl rfl rfl ?_
    refine pr_getR0 97 dX3_divide_94 fX3_18 rfl ?_
    refine pr_iload 99 dX3_divide_97 rfl rfl ?_
    refine pr_lload 101 dX3_divide_99 rfl rfl ?_
    refine pr_lload_n 102 dX3_divide_101 rfl rfl rfl ?_
    refine pr_lrem (hne) 103 dX3_divide_102 rfl ?_
    rw [lN_rem hp (by omega)]
    refine pr_lastore k 104 dX3_divide_103 rfl rfl rfl (by omega) rfl ?_
    refine pr_iload 106 dX3_divide_104 rfl rfl ?_
    refine pr_aload_n 107 dX3_divide_106 rfl rfl rfl ?_
    refine pr_getR0 110 dX3_divide_107 fX3_9 rfl ?_
    refine pr_iload 112 dX3_divide_110 rfl rfl ?_
    refine pr_iaload k 113 dX3_divide_112 rfl rfl rfl (by omega) rfl ?_
    rw [pm_gIJ, pm_gI, if_pos ⟨rfl, rfl, rfl⟩]
    refine pr_isub 114 dX3_divide_113 rfl ?_
    rw [nI_subN (by rw [sm] at hle; omega), Nat.sub_sub]
    refine pr_istore 116 dX3_divide_114 (pm_st_4 rfl rfl) rfl ?_
    refine pr_iinc 119 dX3_divide_116 rfl (by first | exact pm_inc _ | rfl) (pm_st_5 rfl rfl) rfl ?_
    refine pr_goto 59 dX3_divide_119 rfl ?_
    refine hk2 _ ((hf.uI ⟨Or.inl rfl, rfl⟩).uJ ⟨Or.inr rfl, rfl⟩) (fun i hi => ?_)
    rw [pm_gJ, pm_gIJ, pm_gI, pm_gJI]
    by_cases e : i = k
    · subst e
      simp only [and_self, if_true, g0]
      exact ⟨trivial, (lI_nat _).symm⟩
    · obtain ⟨a1, a2⟩ := hg i (by omega)
      simp [e, a1, a2]
  intro j
  induction j with
  | zero =>
    intro k mem a6 hj hf hg
    refine step k mem a6 (by omega) hf hg (fun mem1 hf1 hg1 => ?_)
    have e : c = k + 1 := by omega
    subst e
    refine pr_iload 61 dX3_divide_59 rfl rfl ?_
    refine pr_aload_n 62 dX3_divide_61 rfl rfl rfl ?_
    refine pr_getI 65 dX3_divide_62 fX3_22 rfl ?_
    rw [fr_cnt hc hf1]
    refine pr_icmp_ge 122 68 dX3_divide_65 rfl rfl (fun c_65 => ?_) (fun c_65 => absurd (nI_le (Nat.le_refl _) (by omega)) (c_65))
    exact hk mem1 hf1 hg1
  | succ j ih =>
    intro k mem a6 hj hf hg
    exact step k mem a6 (by omega) hf hg (fun mem1 hf1 hg1 => ih (k + 1) mem1 _ (by omega) hf1 hg1)
set_option maxRecDepth 100000 in
theorem lp_X3_div3 (hc : mem0.1 10003903 L 3 = nI c) (h16 : c ≤ 16) (hmb : ∀ k, k < c → m k < 2147483648) (hS : 0 < sm m c) {a2 a3 a6 a7 : Option pm_v} {Qr : Option pm_v → pm_M → Prop}
    (hk : ∀ mem, pm_fr (sPar L) mem0 mem → gRow mem L c (gv c (lf n c m) (g0 n (sm m c) m)) → Qr none mem) :
    ∀ j k mem, k + j = lf n c m → pm_fr (sPar L) mem0 mem → gRow mem L c (gv c k (g0 n (sm m c) m)) → PR cX3_divide RX3 8 1 22 125 [some (pR 10003903 L), some (pI (nI n)), a2, a3, some (pI (nI (lf n c m))), some (pI (nI k)), a6, a7] [] mem (pm_RX cX3_divide none Qr) := by
  have hl := pa_left (n := n) hS
  have hSb : sm m c < 2 ^ 36 := by
    have : sm m c ≤ sm (fun _ => 2147483648) c := sm_le (fun k hk => by have := hmb k hk; omega)
    rw [sm_const] at this
    omega
  intro j
  induction j with
  | zero =>
    intro k mem hj hf hg
    have e : lf n c m = k := by omega
    refine pr_iload 127 dX3_divide_125 rfl rfl ?_
    refine pr_iload 129 dX3_divide_127 rfl rfl ?_
    refine pr_icmp_ge 151 132 dX3_divide_129 rfl rfl (fun c_129 => ?_) (fun c_129 => absurd (nI_le (by omega) (by omega)) (c_129))
    refine pr_return dX3_divide_151 rfl ?_
    exact hk mem hf (by rw [e]; exact hg)
  | succ j ih =>
    intro k mem hj hf hg
    have hb : gBnd (gv c k (g0 n (sm m c) m)) := fun i => by
      have := (gv_inv (n := n) hS k (by omega)).1 i
      omega
    refine pr_iload 127 dX3_divide_125 rfl rfl ?_
    refine pr_iload 129 dX3_divide_127 rfl rfl ?_
    refine pr_icmp_ge 151 132 dX3_divide_129 rfl rfl (fun c_129 => absurd (c_129) (nI_ge (by omega) (by omega))) (fun c_129 => ?_)
    refine pr_iload 134 dX3_divide_132 rfl rfl ?_
    refine pr_aload_n 135 dX3_divide_134 rfl rfl rfl ?_
    refine pr_getI 138 dX3_divide_135 fX3_22 rfl ?_
    rw [fr_cnt hc hf]
    refine pr_icmp_ge 151 141 dX3_divide_138 rfl rfl (fun c_138 => absurd (c_138) (nI_ge (by omega) (by omega))) (fun c_138 => ?_)
    refine pr_aload_n 142 dX3_divide_141 rfl rfl rfl ?_
    refine pr_inv0R0 145 dX3_divide_142 vX3_26 mX3_giveOne (sp_X3_giveOne (fr_cnt hc hf) (by omega) h16 hg hb) ⟨Nat.le_of_ble_eq_true rfl, Nat.le_of_ble_eq_true rfl⟩ (Nat.le_of_ble_eq_true rfl) rfl (fun mem1 h1 => ?_)
    refine pr_iinc 148 dX3_divide_145 rfl (by first | exact pm_inc _ | rfl) (pm_st_5 rfl rfl) rfl ?_
    refine pr_goto 125 dX3_divide_148 rfl ?_
    exact ih (k + 1) mem1 (by omega) (hf.tr h1.1) h1.2
set_option maxRecDepth 100000 in
theorem sp_X3_divide (hc : mem0.1 10003903 L 3 = nI c) (h16 : c ≤ 16) (hm : ∀ k, k < c → mem0.1 20016121 L k = nI (m k)) (hmb : ∀ k, k < c → m k < 2147483648) (hn : n < 2147483648) : Cl yX3_divide cX3_divide 8 none 1 22 [pR 10003903 L, pI (nI n)] mem0 (fun r mem => r = none ∧ pm_fr (sPar L) mem0 mem ∧ (∀ k, k < c → mem.1 20016120 L k = nI (pa n c m k))) := by
  refine Cl.of (own := RX3) rfl rfl (Nat.le_of_ble_eq_true rfl) rfl ?_; show PR _ _ _ _ _ _ [some _, some _, none, none, none, none, none, none] _ _ _
  have hSb : sm m c < 2 ^ 36 := by
    have : sm m c ≤ sm (fun _ => 2147483648) c := sm_le (fun k hk => by have := hmb k hk; omega)
    rw [sm_const] at this
    omega
  refine pr_lconst (0) 1 dX3_divide_0 (by decide) rfl ?_
  refine pr_lstore_n 2 dX3_divide_1 rfl (pm_st2_2 rfl) rfl ?_
  refine pr_iconst (0) 3 dX3_divide_2 (by decide) rfl ?_
  refine pr_istore 5 dX3_divide_3 (pm_st_4 rfl rfl) rfl ?_
  refine lp_X3_div1 hc h16 hm hmb (fun mem hf hz => ?_) c 0 mem0 (by omega) pm_fr.rf (fun i hi => absurd hi (Nat.not_lt_zero _))
  have hcz : (0 < lg_cmp (lN (sm m c)) 0) ↔ 0 < sm m c := by
    rw [lg_cmp_gt]
    exact lN_ltI (a := 0) (by omega) (by omega)
  refine pr_lload_n 40 dX3_divide_39 rfl rfl rfl ?_
  refine pr_lconst (0) 41 dX3_divide_40 (by decide) rfl ?_
  refine pr_lcmp 42 dX3_divide_41 rfl ?_
  refine pr_if_gt 53 45 dX3_divide_42 rfl rfl (fun c_42 => ?_) (fun c_42 => ?_)
  · have hS := hcz.mp c_42
    refine pr_iload_n 54 dX3_divide_53 rfl rfl rfl ?_
    refine pr_istore 56 dX3_divide_54 (pm_st_4 rfl rfl) rfl ?_
    refine pr_iconst (0) 57 dX3_divide_56 (by decide) rfl ?_
    refine pr_istore 59 dX3_divide_57 (pm_st_5 rfl rfl) rfl ?_
    have hcnt : 0 < c := by
      rcases Nat.eq_zero_or_pos c with z | z
      · subst z; simp [sm] at hS
      · exact z
    refine lp_X3_div2 hc h16 hm hmb hn hS (fun mem1 hf1 hg1 => ?_) (c - 1) 0 mem _ (by omega) hf (fun i hi => absurd hi (Nat.not_lt_zero _))
    refine pr_iconst (0) 123 dX3_divide_122 (by decide) rfl ?_
    refine pr_istore 125 dX3_divide_123 (pm_st_5 rfl rfl) rfl ?_
    refine lp_X3_div3 hc h16 hmb hS (fun mem2 hf2 hg2 => ?_) (lf n c m) 0 mem1 (by omega) hf1 hg1
    refine ⟨rfl, hf2, fun k hk => ?_⟩
    rw [(hg2 k hk).1]
    unfold pa
    rw [if_neg (by omega)]
  · refine pr_aload_n 46 dX3_divide_45 rfl rfl rfl ?_
    refine pr_getR0 49 dX3_divide_46 fX3_9 rfl ?_
    refine pr_iconst (0) 50 dX3_divide_49 (by decide) rfl ?_
    refine pr_iload_n 51 dX3_divide_50 rfl rfl rfl ?_
    refine pr_iastore 0 52 dX3_divide_51 rfl rfl rfl (by omega) rfl ?_
    refine pr_return dX3_divide_52 rfl ?_
    have hS : sm m c = 0 := Nat.eq_zero_of_not_pos (fun z => c_42 (hcz.mpr z))
    refine ⟨rfl, hf.uI ⟨Or.inl rfl, rfl⟩, fun k hk => ?_⟩
    rw [pm_gI]
    unfold pa
    rw [if_pos hS]
    by_cases e : k = 0
    · simp [e]
    · simp [e]
      exact hz k hk
end DIV
