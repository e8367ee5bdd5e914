/-! the reference: gaps, hubs, due, counts -/
def gapM (mem : pm_M) (G : List gG) : Prop := mem.1 10009909 0 30 = nI G.length ∧ ∀ (i : Nat) (q : gG), G[i]? = some q → mem.1 21000389 0 (3 * i) = nI q.1 ∧ mem.1 21000389 0 (3 * i + 1) = nI q.2.1 ∧ mem.1 21000389 0 (3 * i + 2) = nI q.2.2
def sMG : Nat → Nat → Prop := fun t i => t ∈ [10009909, 21000389] ∧ i = 0
/-- the reference's fields, but how many gaps -/
def mdG (m0 m : pm_M) : Prop := (∀ k, k ≠ 30 → m.1 10009909 0 k = m0.1 10009909 0 k) ∧ m.2.1 10009909 0 = m0.2.1 10009909 0
theorem ix_3 (n : Nat) : (3 : Int32) * nI n = nI (3 * n) := by rw [← nI_mulN]; rfl
theorem ix_31 (n : Nat) : (3 : Int32) * nI n + 1 = nI (3 * n + 1) := by rw [← nI_add, ← nI_mulN]; rfl
theorem ix_32 (n : Nat) : (3 : Int32) * nI n + 2 = nI (3 * n + 2) := by rw [← nI_add, ← nI_mulN]; rfl
section MGP
variable {mem0 : pm_M} {K : Nat → Nat} {G : List gG}
theorem mdG.rf : mdG mem0 mem0 := ⟨fun _ _ => rfl, rfl⟩
theorem mdG.tr {m1 m2 : pm_M} (h1 : mdG mem0 m1) (h2 : mdG m1 m2) : mdG mem0 m2 := ⟨fun k hk => (h2.1 k hk).trans (h1.1 k hk), h2.2.trans h1.2⟩
set_option maxRecDepth 100000 in
theorem sp_X9_adds (hg : gapM mem0 G) (hl : G.length < 333) (a b c : Nat) (hb : b < 1000) (hc : c < 1000) : Cl yX9_adds cX9_adds 4 none 0 0 [pR 10009909 0, pI (nI a), pI (nI b), pI (nI c)] mem0 (fun r mem => r = none ∧ pm_fr sMG mem0 mem ∧ mdG mem0 mem ∧ gapM mem (if b = c then G else G ++ [(a, b, c)])) := by
  obtain ⟨g1, g2⟩ := hg
  refine Cl.of (own := RX9) rfl rfl (Nat.le_of_ble_eq_true rfl) rfl ?_; show PR _ _ _ _ _ _ [some _, some _, some _, some _] _ _ _
  refine pr_iload_n 1 dX9_adds_0 rfl rfl rfl ?_
  refine pr_iload_n 2 dX9_adds_1 rfl rfl rfl ?_
  refine pr_icmp_ne 6 5 dX9_adds_2 rfl rfl (fun c_2 => ?_) (fun c_2 => ?_)
  · rw [nI_eq (by omega) (by omega)] at c_2
    refine pr_aload_n 7 dX9_adds_6 rfl rfl rfl ?_
    refine pr_getR0 10 dX9_adds_7 fX9_107 rfl ?_
    refine pr_iconst (3) 11 dX9_adds_10 (by decide) rfl ?_
    refine pr_aload_n 12 dX9_adds_11 rfl rfl rfl ?_
    refine pr_getI 15 dX9_adds_12 fX9_227 rfl ?_
    rw [g1]
    refine pr_imul 16 dX9_adds_15 rfl ?_
    refine pr_iload_n 17 dX9_adds_16 rfl rfl rfl ?_
    refine pr_iastore (3 * G.length) 18 dX9_adds_17 rfl rfl (ix_3 _) (by omega) rfl ?_
    refine pr_aload_n 19 dX9_adds_18 rfl rfl rfl ?_
    refine pr_getR0 22 dX9_adds_19 fX9_107 rfl ?_
    refine pr_iconst (3) 23 dX9_adds_22 (by decide) rfl ?_
    refine pr_aload_n 24 dX9_adds_23 rfl rfl rfl ?_
    refine pr_getI 27 dX9_adds_24 fX9_227 rfl ?_
    rw [pm_gIn (by simp), g1]
    refine pr_imul 28 dX9_adds_27 rfl ?_
    refine pr_iconst (1) 29 dX9_adds_28 (by decide) rfl ?_
    refine pr_iadd 30 dX9_adds_29 rfl ?_
    refine pr_iload_n 31 dX9_adds_30 rfl rfl rfl ?_
    refine pr_iastore (3 * G.length + 1) 32 dX9_adds_31 rfl rfl (ix_31 _) (by omega) rfl ?_
    refine pr_aload_n 33 dX9_adds_32 rfl rfl rfl ?_
    refine pr_getR0 36 dX9_adds_33 fX9_107 rfl ?_
    refine pr_iconst (3) 37 dX9_adds_36 (by decide) rfl ?_
    refine pr_aload_n 38 dX9_adds_37 rfl rfl rfl ?_
    refine pr_getI 41 dX9_adds_38 fX9_227 rfl ?_
    rw [pm_gIn (by simp), pm_gIn (by simp), g1]
    refine pr_imul 42 dX9_adds_41 rfl ?_
    refine pr_iconst (2) 43 dX9_adds_42 (by decide) rfl ?_
    refine pr_iadd 44 dX9_adds_43 rfl ?_
    refine pr_iload_n 45 dX9_adds_44 rfl rfl rfl ?_
    refine pr_iastore (3 * G.length + 2) 46 dX9_adds_45 rfl rfl (ix_32 _) (by omega) rfl ?_
    refine pr_aload_n 47 dX9_adds_46 rfl rfl rfl ?_
    refine pr_dup rfl 48 dX9_adds_47 rfl ?_
    refine pr_getI 51 dX9_adds_48 fX9_227 rfl ?_
    rw [pm_gIn (by simp), pm_gIn (by simp), pm_gIn (by simp), g1]
    refine pr_iconst (1) 52 dX9_adds_51 (by decide) rfl ?_
    refine pr_iadd 53 dX9_adds_52 rfl ?_
    rw [show (1 : Int32) = nI 1 from rfl, nI_add]
    refine pr_putI 56 dX9_adds_53 fX9_227 rfl ?_
    refine pr_return dX9_adds_56 rfl ?_
    refine ⟨rfl, (((pm_fr.rf.uI ⟨by simp, rfl⟩).uI ⟨by simp, rfl⟩).uI ⟨by simp, rfl⟩).uI ⟨by simp, rfl⟩, ⟨fun k hk => by rw [pm_gIn (fun y => hk y.2.2), pm_gIn (by simp), pm_gIn (by simp), pm_gIn (by simp)], rfl⟩, ?_⟩
    rw [if_neg c_2]
    refine ⟨by rw [pm_gIe, List.length_append]; rfl, fun i q hq => ?_⟩
    simp only [pm_gI]
    rcases Nat.lt_or_ge i G.length with z | z
    · rw [List.getElem?_append_left z] at hq
      obtain ⟨q1, q2, q3⟩ := g2 i q hq
      rw [if_neg (by simp), if_neg (by omega), if_neg (by omega), if_neg (by omega), if_neg (by simp), if_neg (by omega), if_neg (by omega), if_neg (by omega), if_neg (by simp), if_neg (by omega), if_neg (by omega), if_neg (by omega)]
      exact ⟨q1, q2, q3⟩
    · rw [List.getElem?_append_right z] at hq
      have y : i = G.length := by
        have := (List.getElem?_eq_some_iff.mp hq).1
        simp at this
        omega
      subst y
      simp at hq
      subst hq
      refine ⟨?_, ?_, ?_⟩
      · rw [if_neg (by simp), if_neg (by omega), if_neg (by omega), if_pos (by simp)]
      · rw [if_neg (by simp), if_neg (by omega), if_pos (by simp)]
      · rw [if_neg (by simp), if_pos (by simp)]
  · rw [nI_eq (by omega) (by omega)] at c_2
    refine pr_return dX9_adds_5 rfl ?_
    exact ⟨rfl, pm_fr.rf, mdG.rf, by rw [if_pos c_2]; exact ⟨g1, g2⟩⟩
set_option maxRecDepth 100000 in
theorem lp_X9_laysGapsL (h : rowR 20869371 mem0 K) (hW : WF K) : ∀ j l mem a2 a3, l + j = K 39 → pm_fr sMG mem0 mem → mdG mem0 mem → gapM mem (gks K (K 38) ++ gls K l) → pm_nl a2 = true → PR cX9_laysGaps RX9 4 1 23 81 [some (pR 10009909 0), some (pI (nI l)), a2, a3] [] mem (pm_RX cX9_laysGaps none (fun r mem => r = none ∧ pm_fr sMG mem0 mem ∧ mdG mem0 mem ∧ gapM mem (gps K))) := by
  have h16 := hW.2.2.2.2.1
  have hn16 := hW.2.2.2.1
  have h12 := hW.2.1
  intro j
  induction j with
  | zero =>
    intro l mem a2 a3 hj i1 i2 i3 hn2
    have e : l = K 39 := by omega
    subst e
    have h1 := h.fr i1 (by simp [sMG])
    refine pr_iload_n 82 dX9_laysGaps_81 rfl rfl rfl ?_
    refine pr_aload_n 83 dX9_laysGaps_82 rfl rfl rfl ?_
    refine pr_invD0 86 dX9_laysGaps_83 vX9_170 mX9_loads (sp_X9_loads h1) ⟨Nat.le_of_ble_eq_true rfl, Nat.le_of_ble_eq_true rfl⟩ (Nat.le_of_ble_eq_true rfl) rfl ?_
    refine pr_icmp_ge 195 89 dX9_laysGaps_86 rfl rfl (fun c_86 => ?_) (fun c_86 => absurd (Int32.le_refl _) (c_86))
    refine pr_return dX9_laysGaps_195 rfl ?_
    exact ⟨rfl, i1, i2, i3⟩
  | succ j ih =>
    intro l mem a2 a3 hj i1 i2 i3 hn2
    have h1 := h.fr i1 (by simp [sMG])
    obtain ⟨-, f2, f3⟩ := hW.2.2.2.2.2.2.2.1 l (by omega)
    have hglen : (gks K (K 38) ++ gls K l).length + 17 ≤ 288 := by
      rw [List.length_append]
      have a1 := gks_le K (K 38)
      have a2 := gls_len K l
      have a3 : l * (K 40 + 1) ≤ 15 * 17 := Nat.mul_le_mul (by omega) (by omega)
      omega
    have lp : ∀ j t mem, t + j = K 40 → pm_fr sMG mem0 mem → mdG mem0 mem → gapM mem ((gks K (K 38) ++ gls K l) ++ gl K l t) → PR cX9_laysGaps RX9 4 1 23 101 [some (pR 10009909 0), some (pI (nI l)), some (pI (nI ((lo K l t).getD (K (69 + l))))), some (pI (nI t))] [] mem (pm_RX cX9_laysGaps none (fun r mem => r = none ∧ pm_fr sMG mem0 mem ∧ mdG mem0 mem ∧ gapM mem (gps K))) := by
      intro j
      induction j with
      | zero =>
        intro t mem hj2 i1 i2 i3
        have e : t = K 40 := by omega
        subst e
        have h1 := h.fr i1 (by simp [sMG])
        have hlg := lo_get hW (l := l) (by omega) (Nat.le_refl (K 40))
        have hgl := gl_len K l (K 40)
        refine pr_iload_n 102 dX9_laysGaps_101 rfl rfl rfl ?_
        refine pr_aload_n 103 dX9_laysGaps_102 rfl rfl rfl ?_
        refine pr_invD0 106 dX9_laysGaps_103 vX9_173 mX9_trips (sp_X9_trips h1) ⟨Nat.le_of_ble_eq_true rfl, Nat.le_of_ble_eq_true rfl⟩ (Nat.le_of_ble_eq_true rfl) rfl ?_
        refine pr_icmp_ge 171 109 dX9_laysGaps_106 rfl rfl (fun c_106 => ?_) (fun c_106 => absurd (Int32.le_refl _) (c_106))
        refine pr_aload_n 172 dX9_laysGaps_171 rfl rfl rfl ?_
        refine pr_bipush (100) 174 dX9_laysGaps_172 (by decide) rfl ?_
        refine pr_iload_n 175 dX9_laysGaps_174 rfl rfl rfl ?_
        refine pr_iadd 176 dX9_laysGaps_175 rfl ?_
        rw [show (100 : Int32) = nI 100 from rfl, nI_add]
        refine pr_iload_n 177 dX9_laysGaps_176 rfl rfl rfl ?_
        refine pr_aload_n 178 dX9_laysGaps_177 rfl rfl rfl ?_
        refine pr_getR0 181 dX9_laysGaps_178 fX9_64 rfl ?_
        refine pr_bipush (85) 183 dX9_laysGaps_181 (by decide) rfl ?_
        refine pr_iload_n 184 dX9_laysGaps_183 rfl rfl rfl ?_
        refine pr_iadd 185 dX9_laysGaps_184 rfl ?_
        refine pr_iaload (85 + l) 186 dX9_laysGaps_185 rfl rfl (nI_add 85 l) (by omega) rfl ?_
        rw [h1.1 _ (by omega) (by omega)]
        refine pr_inv0R3 189 dX9_laysGaps_186 vX9_230 mX9_adds (sp_X9_adds i3 (by rw [List.length_append]; omega) (100 + l) _ _ (by omega) (by omega)) ⟨Nat.le_of_ble_eq_true rfl, Nat.le_of_ble_eq_true rfl⟩ (Nat.le_of_ble_eq_true rfl) rfl (fun mem1 g1 => ?_)
        refine pr_iinc 192 dX9_laysGaps_189 rfl (by first | exact pm_inc _ | rfl) (pm_st_1 rfl rfl) rfl ?_
        refine pr_goto 81 dX9_laysGaps_192 rfl ?_
        refine ih (l + 1) mem1 _ _ (by omega) (i1.tr g1.1) (i2.tr g1.2.1) ?_ rfl
        have := g1.2.2
        rw [gls, gla]
        by_cases z : (lo K l (K 40)).getD (K (69 + l)) = K (85 + l)
        · rw [if_pos z] at this ⊢
          rw [← List.append_assoc]
          exact this
        · rw [if_neg z] at this ⊢
          rw [← List.append_assoc, ← List.append_assoc]
          exact this
      | succ j ih2 =>
        intro t mem hj2 i1 i2 i3
        have h1 := h.fr i1 (by simp [sMG])
        have hlg := lo_get hW (l := l) (t := t) (by omega) (by omega)
        have hgl := gl_len K l t
        refine pr_iload_n 102 dX9_laysGaps_101 rfl rfl rfl ?_
        refine pr_aload_n 103 dX9_laysGaps_102 rfl rfl rfl ?_
        refine pr_invD0 106 dX9_laysGaps_103 vX9_173 mX9_trips (sp_X9_trips h1) ⟨Nat.le_of_ble_eq_true rfl, Nat.le_of_ble_eq_true rfl⟩ (Nat.le_of_ble_eq_true rfl) rfl ?_
        refine pr_icmp_ge 171 109 dX9_laysGaps_106 rfl rfl (fun c_106 => absurd (c_106) (nI_ge (by omega) (by omega))) (fun c_106 => ?_)
        refine pr_aload_n 110 dX9_laysGaps_109 rfl rfl rfl ?_
        refine pr_iload_n 111 dX9_laysGaps_110 rfl rfl rfl ?_
        refine pr_iconst (5) 112 dX9_laysGaps_111 (by decide) rfl ?_
        refine pr_invD2 115 dX9_laysGaps_112 vX9_182 mX9_its (sp_its5 h1 t (by omega)) ⟨Nat.le_of_ble_eq_true rfl, Nat.le_of_ble_eq_true rfl⟩ (Nat.le_of_ble_eq_true rfl) rfl ?_
        refine pr_iload_n 116 dX9_laysGaps_115 rfl rfl rfl ?_
        refine pr_ivsD2 119 dX9_laysGaps_116 sX9_132 mX9_has (sp_X9_has _ l (by omega)) ⟨Nat.le_of_ble_eq_true rfl, Nat.le_of_ble_eq_true rfl⟩ (Nat.le_of_ble_eq_true rfl) rfl ?_
        refine pr_if_ne 125 122 dX9_laysGaps_119 rfl rfl (fun c_119 => ?_) (fun c_119 => ?_)
        · have hb : bit K t l = true := by
            unfold bit
            exact Decidable.byContradiction (fun z => c_119 (by rw [if_neg z]))
          obtain ⟨b1, b2, b3⟩ := hW.2.2.2.2.2.2.2.2.2 t l (by omega) hb
          refine pr_aload_n 126 dX9_laysGaps_125 rfl rfl rfl ?_
          refine pr_bipush (100) 128 dX9_laysGaps_126 (by decide) rfl ?_
          refine pr_iload_n 129 dX9_laysGaps_128 rfl rfl rfl ?_
          refine pr_iadd 130 dX9_laysGaps_129 rfl ?_
          rw [show (100 : Int32) = nI 100 from rfl, nI_add]
          refine pr_iload_n 131 dX9_laysGaps_130 rfl rfl rfl ?_
          refine pr_aload_n 132 dX9_laysGaps_131 rfl rfl rfl ?_
          refine pr_getR0 135 dX9_laysGaps_132 fX9_64 rfl ?_
          refine pr_sipush (197) 138 dX9_laysGaps_135 (by decide) rfl ?_
          refine pr_bipush (16) 140 dX9_laysGaps_138 (by decide) rfl ?_
          refine pr_iload_n 141 dX9_laysGaps_140 rfl rfl rfl ?_
          refine pr_imul 142 dX9_laysGaps_141 rfl ?_
          refine pr_iadd 143 dX9_laysGaps_142 rfl ?_
          refine pr_iload_n 144 dX9_laysGaps_143 rfl rfl rfl ?_
          refine pr_iadd 145 dX9_laysGaps_144 rfl ?_
          refine pr_iaload (197 + 16 * t + l) 146 dX9_laysGaps_145 rfl rfl (ix_on t l) (by omega) rfl ?_
          rw [h1.1 _ (by omega) (by omega)]
          refine pr_inv0R3 149 dX9_laysGaps_146 vX9_230 mX9_adds (sp_X9_adds i3 (by rw [List.length_append]; omega) (100 + l) _ _ (by omega) (by omega)) ⟨Nat.le_of_ble_eq_true rfl, Nat.le_of_ble_eq_true rfl⟩ (Nat.le_of_ble_eq_true rfl) rfl (fun mem1 g1 => ?_)
          have h2 := h1.fr g1.1 (by simp [sMG])
          refine pr_aload_n 150 dX9_laysGaps_149 rfl rfl rfl ?_
          refine pr_getR0 153 dX9_laysGaps_150 fX9_64 rfl ?_
          refine pr_sipush (453) 156 dX9_laysGaps_153 (by decide) rfl ?_
          refine pr_bipush (16) 158 dX9_laysGaps_156 (by decide) rfl ?_
          refine pr_iload_n 159 dX9_laysGaps_158 rfl rfl rfl ?_
          refine pr_imul 160 dX9_laysGaps_159 rfl ?_
          refine pr_iadd 161 dX9_laysGaps_160 rfl ?_
          refine pr_iload_n 162 dX9_laysGaps_161 rfl rfl rfl ?_
          refine pr_iadd 163 dX9_laysGaps_162 rfl ?_
          refine pr_iaload (453 + 16 * t + l) 164 dX9_laysGaps_163 rfl rfl (ix_off t l) (by omega) rfl ?_
          rw [h2.1 _ (by omega) (by omega)]
          refine pr_istore_n 165 dX9_laysGaps_164 rfl (pm_st_2 rfl rfl) rfl ?_
          refine pr_iinc 168 dX9_laysGaps_165 rfl (by first | exact pm_inc _ | rfl) (pm_st_3 rfl rfl) rfl ?_
          refine pr_goto 101 dX9_laysGaps_168 rfl ?_
          have := ih2 (t + 1) mem1 (by omega) (i1.tr g1.1) (i2.tr g1.2.1) (by
            have := g1.2.2
            rw [gl]
            by_cases z : (lo K l t).getD (K (69 + l)) = K (197 + 16 * t + l)
            · rw [if_pos z] at this
              rw [if_neg (fun y => y.2 z)]
              exact this
            · rw [if_neg z] at this
              rw [if_pos ⟨hb, z⟩, ← List.append_assoc]
              exact this)
          rw [show lo K l (t + 1) = some (K (453 + 16 * t + l)) by rw [lo, if_pos hb]] at this
          exact this
        · have hb : ¬ bit K t l = true := fun z => by
            unfold bit at z
            rw [if_pos z] at c_119
            exact absurd c_119 (by decide)
          refine pr_goto 165 dX9_laysGaps_122 rfl ?_
          refine pr_iinc 168 dX9_laysGaps_165 rfl (by first | exact pm_inc _ | rfl) (pm_st_3 rfl rfl) rfl ?_
          refine pr_goto 101 dX9_laysGaps_168 rfl ?_
          have := ih2 (t + 1) mem (by omega) i1 i2 (by rw [gl, if_neg (fun z => hb z.1)]; exact i3)
          rw [show lo K l (t + 1) = lo K l t by rw [lo, if_neg hb]] at this
          exact this
    refine pr_iload_n 82 dX9_laysGaps_81 rfl rfl rfl ?_
    refine pr_aload_n 83 dX9_laysGaps_82 rfl rfl rfl ?_
    refine pr_invD0 86 dX9_laysGaps_83 vX9_170 mX9_loads (sp_X9_loads h1) ⟨Nat.le_of_ble_eq_true rfl, Nat.le_of_ble_eq_true rfl⟩ (Nat.le_of_ble_eq_true rfl) rfl ?_
    refine pr_icmp_ge 195 89 dX9_laysGaps_86 rfl rfl (fun c_86 => absurd (c_86) (nI_ge (by omega) (by omega))) (fun c_86 => ?_)
    refine pr_aload_n 90 dX9_laysGaps_89 rfl rfl rfl ?_
    refine pr_getR0 93 dX9_laysGaps_90 fX9_64 rfl ?_
    refine pr_bipush (69) 95 dX9_laysGaps_93 (by decide) rfl ?_
    refine pr_iload_n 96 dX9_laysGaps_95 rfl rfl rfl ?_
    refine pr_iadd 97 dX9_laysGaps_96 rfl ?_
    refine pr_iaload (69 + l) 98 dX9_laysGaps_97 rfl rfl (nI_add 69 l) (by omega) rfl ?_
    rw [h1.1 _ (by omega) (by omega)]
    refine pr_istore_n 99 dX9_laysGaps_98 rfl (pm_st_2 rfl rfl) rfl ?_
    refine pr_iconst (0) 100 dX9_laysGaps_99 (by decide) rfl ?_
    refine pr_istore_n 101 dX9_laysGaps_100 rfl (pm_st_3 rfl rfl) rfl ?_
    exact lp (K 40) 0 mem (by omega) i1 i2 (by rw [gl, List.append_nil]; exact i3)
set_option maxRecDepth 100000 in
theorem sp_X9_laysGaps (h : rowR 20869371 mem0 K) (hW : WF K) : Cl yX9_laysGaps cX9_laysGaps 4 none 1 23 [pR 10009909 0] mem0 (fun r mem => r = none ∧ pm_fr sMG mem0 mem ∧ mdG mem0 mem ∧ gapM mem (gps K)) := by
  have h16 := hW.2.2.2.2.1
  have hn16 := hW.2.2.2.1
  have h12 := hW.2.1
  have h4 := hW.2.2.1
  have lp1 : ∀ j k mem a2 a3, k + j = K 38 → pm_fr sMG mem0 mem → mdG mem0 mem → gapM mem (gks K k) → pm_nl a2 = true → PR cX9_laysGaps RX9 4 1 23 7 [some (pR 10009909 0), some (pI (nI k)), a2, a3] [] mem (pm_RX cX9_laysGaps none (fun r mem => r = none ∧ pm_fr sMG mem0 mem ∧ mdG mem0 mem ∧ gapM mem (gps K))) := by
    intro j
    induction j with
    | zero =>
      intro k mem a2 a3 hj i1 i2 i3 hn2
      have e : k = K 38 := by omega
      subst e
      have h1 := h.fr i1 (by simp [sMG])
      refine pr_iload_n 8 dX9_laysGaps_7 rfl rfl rfl ?_
      refine pr_aload_n 9 dX9_laysGaps_8 rfl rfl rfl ?_
      refine pr_getR0 12 dX9_laysGaps_9 fX9_64 rfl ?_
      refine pr_bipush (38) 14 dX9_laysGaps_12 (by decide) rfl ?_
      refine pr_iaload 38 15 dX9_laysGaps_14 rfl rfl rfl (by omega) rfl ?_
      rw [h1.1 38 (by omega) (by omega)]
      refine pr_icmp_ge 79 18 dX9_laysGaps_15 rfl rfl (fun c_15 => ?_) (fun c_15 => absurd (Int32.le_refl _) (c_15))
      refine pr_iconst (0) 80 dX9_laysGaps_79 (by decide) rfl ?_
      refine pr_istore_n 81 dX9_laysGaps_80 rfl (pm_st_1 rfl rfl) rfl ?_
      exact lp_X9_laysGapsL h hW (K 39) 0 mem _ _ (by omega) i1 i2 (by rw [gls, List.append_nil]; exact i3) hn2
    | succ j ih =>
      intro k mem a2 a3 hj i1 i2 i3 hn2
      have h1 := h.fr i1 (by simp [sMG])
      have lp : ∀ j t mem, t + j = K 40 → pm_fr sMG mem0 mem → mdG mem0 mem → gapM mem (gks K k ++ gk K k t) → PR cX9_laysGaps RX9 4 1 23 22 [some (pR 10009909 0), some (pI (nI k)), some (pI (onI (lt K k t))), some (pI (nI t))] [] mem (pm_RX cX9_laysGaps none (fun r mem => r = none ∧ pm_fr sMG mem0 mem ∧ mdG mem0 mem ∧ gapM mem (gps K))) := by
        intro j
        induction j with
        | zero =>
          intro t mem hj2 i1 i2 i3
          have e : t = K 40 := by omega
          subst e
          have h1 := h.fr i1 (by simp [sMG])
          refine pr_iload_n 23 dX9_laysGaps_22 rfl rfl rfl ?_
          refine pr_aload_n 24 dX9_laysGaps_23 rfl rfl rfl ?_
          refine pr_invD0 27 dX9_laysGaps_24 vX9_173 mX9_trips (sp_X9_trips h1) ⟨Nat.le_of_ble_eq_true rfl, Nat.le_of_ble_eq_true rfl⟩ (Nat.le_of_ble_eq_true rfl) rfl ?_
          refine pr_icmp_ge 73 30 dX9_laysGaps_27 rfl rfl (fun c_27 => ?_) (fun c_27 => absurd (Int32.le_refl _) (c_27))
          refine pr_iinc 76 dX9_laysGaps_73 rfl (by first | exact pm_inc _ | rfl) (pm_st_1 rfl rfl) rfl ?_
          refine pr_goto 7 dX9_laysGaps_76 rfl ?_
          exact ih (k + 1) mem _ _ (by omega) i1 i2 i3 rfl
        | succ j ih2 =>
          intro t mem hj2 i1 i2 i3
          have h1 := h.fr i1 (by simp [sMG])
          obtain ⟨a1, a2, a3, a4, a5, a6⟩ := hW.2.2.2.2.2.2.2.2.1 t (by omega)
          have hlt : ∀ a, lt K k t = some a → a < K 37 := fun a ha => lt_lt hW (by omega) ha
          have hon := onI_none hlt (by omega)
          have tail : ∀ mem, K (101 + 6 * t) = k → pm_fr sMG mem0 mem → mdG mem0 mem → gapM mem (gks K k ++ gk K k (t + 1)) → ∀ a2, PR cX9_laysGaps RX9 4 1 23 60 [some (pR 10009909 0), some (pI (nI k)), some (pI a2), some (pI (nI t))] [] mem (pm_RX cX9_laysGaps none (fun r mem => r = none ∧ pm_fr sMG mem0 mem ∧ mdG mem0 mem ∧ gapM mem (gps K))) := by
            intro mem hof g1 g2 g3 a2
            have h2 := h.fr g1 (by simp [sMG])
            refine pr_aload_n 61 dX9_laysGaps_60 rfl rfl rfl ?_
            refine pr_iload_n 62 dX9_laysGaps_61 rfl rfl rfl ?_
            refine pr_iconst (4) 63 dX9_laysGaps_62 (by decide) rfl ?_
            refine pr_invD2 66 dX9_laysGaps_63 vX9_182 mX9_its (sp_its4 h2 t (by omega)) ⟨Nat.le_of_ble_eq_true rfl, Nat.le_of_ble_eq_true rfl⟩ (Nat.le_of_ble_eq_true rfl) rfl ?_
            refine pr_istore_n 67 dX9_laysGaps_66 rfl (pm_st_2 rfl rfl) rfl ?_
            refine pr_iinc 70 dX9_laysGaps_67 rfl (by first | exact pm_inc _ | rfl) (pm_st_3 rfl rfl) rfl ?_
            refine pr_goto 22 dX9_laysGaps_70 rfl ?_
            have := ih2 (t + 1) mem (by omega) g1 g2 g3
            rw [show lt K k (t + 1) = some (K (105 + 6 * t)) by rw [lt, if_pos hof]] at this
            exact this
          refine pr_iload_n 23 dX9_laysGaps_22 rfl rfl rfl ?_
          refine pr_aload_n 24 dX9_laysGaps_23 rfl rfl rfl ?_
          refine pr_invD0 27 dX9_laysGaps_24 vX9_173 mX9_trips (sp_X9_trips h1) ⟨Nat.le_of_ble_eq_true rfl, Nat.le_of_ble_eq_true rfl⟩ (Nat.le_of_ble_eq_true rfl) rfl ?_
          refine pr_icmp_ge 73 30 dX9_laysGaps_27 rfl rfl (fun c_27 => absurd (c_27) (nI_ge (by omega) (by omega))) (fun c_27 => ?_)
          refine pr_aload_n 31 dX9_laysGaps_30 rfl rfl rfl ?_
          refine pr_iload_n 32 dX9_laysGaps_31 rfl rfl rfl ?_
          refine pr_iconst (0) 33 dX9_laysGaps_32 (by decide) rfl ?_
          refine pr_invD2 36 dX9_laysGaps_33 vX9_182 mX9_its (sp_its0 h1 t (by omega)) ⟨Nat.le_of_ble_eq_true rfl, Nat.le_of_ble_eq_true rfl⟩ (Nat.le_of_ble_eq_true rfl) rfl ?_
          refine pr_iload_n 37 dX9_laysGaps_36 rfl rfl rfl ?_
          refine pr_icmp_eq 43 40 dX9_laysGaps_37 rfl rfl (fun c_37 => ?_) (fun c_37 => ?_)
          · rw [nI_eq (by omega) (by omega)] at c_37
            refine pr_iload_n 44 dX9_laysGaps_43 rfl rfl rfl ?_
            refine pr_iconst (-1) 45 dX9_laysGaps_44 (by decide) rfl ?_
            refine pr_icmp_eq 60 48 dX9_laysGaps_45 rfl rfl (fun c_45 => ?_) (fun c_45 => ?_)
            · rw [hon] at c_45
              refine tail mem c_37 i1 i2 ?_ _
              rw [gk, if_neg (fun z => z.2 (by rw [c_45]; rfl))]
              exact i3
            · rw [hon] at c_45
              obtain ⟨u, hu⟩ : ∃ u, lt K k t = some u := by
                cases hh : lt K k t with
                | none => exact absurd hh c_45
                | some u => exact ⟨u, rfl⟩
              have hul := hlt u hu
              rw [hu]
              refine pr_aload_n 49 dX9_laysGaps_48 rfl rfl rfl ?_
              refine pr_iload_n 50 dX9_laysGaps_49 rfl rfl rfl ?_
              refine pr_iload_n 51 dX9_laysGaps_50 rfl (show _ = some (some (pI (nI u))) from rfl) rfl ?_
              refine pr_aload_n 52 dX9_laysGaps_51 rfl rfl rfl ?_
              refine pr_iload_n 53 dX9_laysGaps_52 rfl rfl rfl ?_
              refine pr_iconst (3) 54 dX9_laysGaps_53 (by decide) rfl ?_
              refine pr_invD2 57 dX9_laysGaps_54 vX9_182 mX9_its (sp_its3 h1 t (by omega)) ⟨Nat.le_of_ble_eq_true rfl, Nat.le_of_ble_eq_true rfl⟩ (Nat.le_of_ble_eq_true rfl) rfl ?_
              refine pr_inv0R3 60 dX9_laysGaps_57 vX9_230 mX9_adds (sp_X9_adds i3 (by rw [List.length_append]; have := gkk_len (K := K) k (t := t) (by omega); omega) k u (K (104 + 6 * t)) (by omega) (by omega)) ⟨Nat.le_of_ble_eq_true rfl, Nat.le_of_ble_eq_true rfl⟩ (Nat.le_of_ble_eq_true rfl) rfl (fun mem1 g1 => ?_)
              refine tail mem1 c_37 (i1.tr g1.1) (i2.tr g1.2.1) ?_ _
              have := g1.2.2
              rw [gk, hu]
              by_cases z : u = K (104 + 6 * t)
              · rw [if_pos z] at this
                rw [if_neg (fun y => y.2 z)]
                exact this
              · rw [if_neg z] at this
                rw [if_pos ⟨c_37, z⟩, ← List.append_assoc]
                exact this
          · rw [nI_eq (by omega) (by omega)] at c_37
            refine pr_goto 67 dX9_laysGaps_40 rfl ?_
            refine pr_iinc 70 dX9_laysGaps_67 rfl (by first | exact pm_inc _ | rfl) (pm_st_3 rfl rfl) rfl ?_
            refine pr_goto 22 dX9_laysGaps_70 rfl ?_
            have := ih2 (t + 1) mem (by omega) i1 i2 (by rw [gk, if_neg (fun z => c_37 z.1)]; exact i3)
            rw [show lt K k (t + 1) = lt K k t by rw [lt, if_neg c_37]] at this
            exact this
      refine pr_iload_n 8 dX9_laysGaps_7 rfl rfl rfl ?_
      refine pr_aload_n 9 dX9_laysGaps_8 rfl rfl rfl ?_
      refine pr_getR0 12 dX9_laysGaps_9 fX9_64 rfl ?_
      refine pr_bipush (38) 14 dX9_laysGaps_12 (by decide) rfl ?_
      refine pr_iaload 38 15 dX9_laysGaps_14 rfl rfl rfl (by omega) rfl ?_
      rw [h1.1 38 (by omega) (by omega)]
      refine pr_icmp_ge 79 18 dX9_laysGaps_15 rfl rfl (fun c_15 => absurd (c_15) (nI_ge (by omega) (by omega))) (fun c_15 => ?_)
      refine pr_iconst (-1) 19 dX9_laysGaps_18 (by decide) rfl ?_
      refine pr_istore_n 20 dX9_laysGaps_19 rfl (pm_st_2 rfl rfl) rfl ?_
      refine pr_iconst (0) 21 dX9_laysGaps_20 (by decide) rfl ?_
      refine pr_istore_n 22 dX9_laysGaps_21 rfl (pm_st_3 rfl rfl) rfl ?_
      exact lp (K 40) 0 mem (by omega) i1 i2 (by rw [gk, List.append_nil]; exact i3)
  refine Cl.of (own := RX9) rfl rfl (Nat.le_of_ble_eq_true rfl) rfl ?_; show PR _ _ _ _ _ _ [some _, none, none, none] _ _ _
  refine pr_aload_n 1 dX9_laysGaps_0 rfl rfl rfl ?_
  refine pr_iconst (0) 2 dX9_laysGaps_1 (by decide) rfl ?_
  refine pr_putI 5 dX9_laysGaps_2 fX9_227 rfl ?_
  refine pr_iconst (0) 6 dX9_laysGaps_5 (by decide) rfl ?_
  refine pr_istore_n 7 dX9_laysGaps_6 rfl (pm_st_1 rfl rfl) rfl ?_
  exact lp1 (K 38) 0 _ _ _ (by omega) (pm_fr.rf.uI ⟨by simp, rfl⟩) ⟨fun k hk => by rw [pm_gIn (fun y => hk y.2.2)], rfl⟩ ⟨by rw [pm_gIe]; rfl, fun i q hq => by simp [gks] at hq⟩ rfl
end MGP
