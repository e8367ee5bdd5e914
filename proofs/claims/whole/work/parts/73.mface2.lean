/-! the reference: its queries, the second half -/
section MF2
variable {mem mem0 : pm_M} {K : Nat → Nat}
theorem q_truck_c {k w : Int32} {i c : Nat} (hk : vix k (K 38) = some i) (hw : vix w 8 = some c) : q_truck K k w = if c = 0 then nI (K (65 + i)) else if c = 1 then nI (K i) else if c = 2 then nI (tbk K i (K 40)) else if c = 3 then nI (sm (fun t => if K (101 + 6 * t) = i then K (102 + 6 * t) else 0) (K 40)) else if c = 4 then nI (sm (fun t => if K (101 + 6 * t) = i then K (103 + 6 * t) else 0) (K 40)) else if c = 5 then nI (tld K i) else if c = 6 then onI (lt K i (K 40)) else nI (sm (fun t => if K (101 + 6 * t) = i then est K t else 0) (K 40)) := by
  rw [q_truck, hk, hw]
  rfl
set_option maxRecDepth 100000 in
theorem lp_truck2 (h1 : rowR 20869371 mem K) (hW : WF K) {i : Nat} (hi : i < K 38) {P : Option pm_v → pm_M → Prop} (hP : P (some (pI (nI (tbk K i (K 40))))) mem) : PR cX9_truck RX9 5 2 44 70 [some (pR 10009909 0), some (pI (nI i)), some (pI (nI 2)), some (pI (0)), some (pI 0)] [] mem (pm_RX cX9_truck (some .int) P) := by
  have h16 := hW.2.2.2.2.1
  have h4 := hW.2.2.1
  have lp : ∀ j t, t + j = K 40 → PR cX9_truck RX9 5 2 44 70 [some (pR 10009909 0), some (pI (nI i)), some (pI (nI 2)), some (pI (nI (tbk K i t))), some (pI (nI t))] [] mem (pm_RX cX9_truck (some .int) P) := by
    intro j
    induction j with
    | zero =>
      intro t hj
      have e : t = K 40 := by omega
      subst e
      refine pr_iload 72 dX9_truck_70 rfl rfl ?_
      refine pr_aload_n 73 dX9_truck_72 rfl rfl rfl ?_
      refine pr_invD0 76 dX9_truck_73 vX9_173 mX9_trips (sp_X9_trips h1) ⟨Nat.le_of_ble_eq_true rfl, Nat.le_of_ble_eq_true rfl⟩ (Nat.le_of_ble_eq_true rfl) rfl ?_
      refine pr_icmp_ge 222 79 dX9_truck_76 rfl rfl (fun c_76 => ?_) (fun c_76 => absurd (Int32.le_refl _) (c_76))
      refine pr_iload_n 223 dX9_truck_222 rfl rfl rfl ?_
      refine pr_ireturn dX9_truck_223 rfl ?_
      exact hP
    | succ j ih =>
      intro t hj
      obtain ⟨a1, a2, -⟩ := hW.2.2.2.2.2.2.2.2.1 t (by omega)
      refine pr_iload 72 dX9_truck_70 rfl rfl ?_
      refine pr_aload_n 73 dX9_truck_72 rfl rfl rfl ?_
      refine pr_invD0 76 dX9_truck_73 vX9_173 mX9_trips (sp_X9_trips h1) ⟨Nat.le_of_ble_eq_true rfl, Nat.le_of_ble_eq_true rfl⟩ (Nat.le_of_ble_eq_true rfl) rfl ?_
      refine pr_icmp_ge 222 79 dX9_truck_76 rfl rfl (fun c_76 => absurd (c_76) (nI_ge (by omega) (by omega))) (fun c_76 => ?_)
      refine pr_aload_n 80 dX9_truck_79 rfl rfl rfl ?_
      refine pr_iload 82 dX9_truck_80 rfl rfl ?_
      refine pr_iconst (0) 83 dX9_truck_82 (by decide) rfl ?_
      refine pr_invD2 86 dX9_truck_83 vX9_182 mX9_its (sp_its0 h1 t (by omega)) ⟨Nat.le_of_ble_eq_true rfl, Nat.le_of_ble_eq_true rfl⟩ (Nat.le_of_ble_eq_true rfl) rfl ?_
      refine pr_iload_n 87 dX9_truck_86 rfl rfl rfl ?_
      refine pr_icmp_eq 93 90 dX9_truck_87 rfl rfl (fun c_87 => ?_) (fun c_87 => ?_)
      · rw [nI_eq (by omega) (by omega)] at c_87
        refine pr_iload_n 94 dX9_truck_93 rfl rfl rfl ?_
        refine pr_table 128 dX9_truck_94 (Or.inr ⟨by decide, by decide, 34, rfl, rfl⟩) ?_
        refine pr_iload_n 129 dX9_truck_128 rfl rfl rfl ?_
        refine pr_iconst (1) 130 dX9_truck_129 (by decide) rfl ?_
        refine pr_iload 132 dX9_truck_130 rfl rfl ?_
        refine pr_ishl 133 dX9_truck_132 rfl ?_
        rw [nI_shl1 t (by omega)]
        refine pr_ior 134 dX9_truck_133 rfl ?_
        rw [nI_orN, or_pow (tbk_lt K i t)]
        refine pr_istore_n 135 dX9_truck_134 rfl (pm_st_3 rfl rfl) rfl ?_
        refine pr_goto 216 dX9_truck_135 rfl ?_
        refine pr_iinc 219 dX9_truck_216 rfl (by first | exact pm_inc _ | rfl) (pm_st_4 rfl rfl) rfl ?_
        refine pr_goto 70 dX9_truck_219 rfl ?_
        have := ih (t + 1) (by omega)
        rw [tbk, sm, if_pos c_87] at this
        exact this
      · rw [nI_eq (by omega) (by omega)] at c_87
        refine pr_goto 216 dX9_truck_90 rfl ?_
        refine pr_iinc 219 dX9_truck_216 rfl (by first | exact pm_inc _ | rfl) (pm_st_4 rfl rfl) rfl ?_
        refine pr_goto 70 dX9_truck_219 rfl ?_
        have := ih (t + 1) (by omega)
        rw [tbk, sm, if_neg c_87, Nat.add_zero] at this
        exact this
  exact lp (K 40) 0 (by omega)
set_option maxRecDepth 100000 in
theorem lp_truck3 (h1 : rowR 20869371 mem K) (hW : WF K) {i : Nat} (hi : i < K 38) {P : Option pm_v → pm_M → Prop} (hP : P (some (pI (nI (sm (fun t => if K (101 + 6 * t) = i then K (102 + 6 * t) else 0) (K 40))))) mem) : PR cX9_truck RX9 5 2 44 70 [some (pR 10009909 0), some (pI (nI i)), some (pI (nI 3)), some (pI (0)), some (pI 0)] [] mem (pm_RX cX9_truck (some .int) P) := by
  have h16 := hW.2.2.2.2.1
  have h4 := hW.2.2.1
  have lp : ∀ j t, t + j = K 40 → PR cX9_truck RX9 5 2 44 70 [some (pR 10009909 0), some (pI (nI i)), some (pI (nI 3)), some (pI (nI (sm (fun t => if K (101 + 6 * t) = i then K (102 + 6 * t) else 0) t))), some (pI (nI t))] [] mem (pm_RX cX9_truck (some .int) P) := by
    intro j
    induction j with
    | zero =>
      intro t hj
      have e : t = K 40 := by omega
      subst e
      refine pr_iload 72 dX9_truck_70 rfl rfl ?_
      refine pr_aload_n 73 dX9_truck_72 rfl rfl rfl ?_
      refine pr_invD0 76 dX9_truck_73 vX9_173 mX9_trips (sp_X9_trips h1) ⟨Nat.le_of_ble_eq_true rfl, Nat.le_of_ble_eq_true rfl⟩ (Nat.le_of_ble_eq_true rfl) rfl ?_
      refine pr_icmp_ge 222 79 dX9_truck_76 rfl rfl (fun c_76 => ?_) (fun c_76 => absurd (Int32.le_refl _) (c_76))
      refine pr_iload_n 223 dX9_truck_222 rfl rfl rfl ?_
      refine pr_ireturn dX9_truck_223 rfl ?_
      exact hP
    | succ j ih =>
      intro t hj
      obtain ⟨a1, a2, -⟩ := hW.2.2.2.2.2.2.2.2.1 t (by omega)
      refine pr_iload 72 dX9_truck_70 rfl rfl ?_
      refine pr_aload_n 73 dX9_truck_72 rfl rfl rfl ?_
      refine pr_invD0 76 dX9_truck_73 vX9_173 mX9_trips (sp_X9_trips h1) ⟨Nat.le_of_ble_eq_true rfl, Nat.le_of_ble_eq_true rfl⟩ (Nat.le_of_ble_eq_true rfl) rfl ?_
      refine pr_icmp_ge 222 79 dX9_truck_76 rfl rfl (fun c_76 => absurd (c_76) (nI_ge (by omega) (by omega))) (fun c_76 => ?_)
      refine pr_aload_n 80 dX9_truck_79 rfl rfl rfl ?_
      refine pr_iload 82 dX9_truck_80 rfl rfl ?_
      refine pr_iconst (0) 83 dX9_truck_82 (by decide) rfl ?_
      refine pr_invD2 86 dX9_truck_83 vX9_182 mX9_its (sp_its0 h1 t (by omega)) ⟨Nat.le_of_ble_eq_true rfl, Nat.le_of_ble_eq_true rfl⟩ (Nat.le_of_ble_eq_true rfl) rfl ?_
      refine pr_iload_n 87 dX9_truck_86 rfl rfl rfl ?_
      refine pr_icmp_eq 93 90 dX9_truck_87 rfl rfl (fun c_87 => ?_) (fun c_87 => ?_)
      · rw [nI_eq (by omega) (by omega)] at c_87
        refine pr_iload_n 94 dX9_truck_93 rfl rfl rfl ?_
        refine pr_table 138 dX9_truck_94 (Or.inr ⟨by decide, by decide, 44, rfl, rfl⟩) ?_
        refine pr_iload_n 139 dX9_truck_138 rfl rfl rfl ?_
        refine pr_aload_n 140 dX9_truck_139 rfl rfl rfl ?_
        refine pr_iload 142 dX9_truck_140 rfl rfl ?_
        refine pr_iconst (1) 143 dX9_truck_142 (by decide) rfl ?_
        refine pr_invD2 146 dX9_truck_143 vX9_182 mX9_its (sp_its1 h1 t (by omega)) ⟨Nat.le_of_ble_eq_true rfl, Nat.le_of_ble_eq_true rfl⟩ (Nat.le_of_ble_eq_true rfl) rfl ?_
        refine pr_iadd 147 dX9_truck_146 rfl ?_
        rw [nI_add]
        refine pr_istore_n 148 dX9_truck_147 rfl (pm_st_3 rfl rfl) rfl ?_
        refine pr_goto 216 dX9_truck_148 rfl ?_
        refine pr_iinc 219 dX9_truck_216 rfl (by first | exact pm_inc _ | rfl) (pm_st_4 rfl rfl) rfl ?_
        refine pr_goto 70 dX9_truck_219 rfl ?_
        have := ih (t + 1) (by omega)
        rw [sm, if_pos c_87] at this
        exact this
      · rw [nI_eq (by omega) (by omega)] at c_87
        refine pr_goto 216 dX9_truck_90 rfl ?_
        refine pr_iinc 219 dX9_truck_216 rfl (by first | exact pm_inc _ | rfl) (pm_st_4 rfl rfl) rfl ?_
        refine pr_goto 70 dX9_truck_219 rfl ?_
        have := ih (t + 1) (by omega)
        rw [sm, if_neg c_87, Nat.add_zero] at this
        exact this
  exact lp (K 40) 0 (by omega)
set_option maxRecDepth 100000 in
theorem lp_truck4 (h1 : rowR 20869371 mem K) (hW : WF K) {i : Nat} (hi : i < K 38) {P : Option pm_v → pm_M → Prop} (hP : P (some (pI (nI (sm (fun t => if K (101 + 6 * t) = i then K (103 + 6 * t) else 0) (K 40))))) mem) : PR cX9_truck RX9 5 2 44 70 [some (pR 10009909 0), some (pI (nI i)), some (pI (nI 4)), some (pI (0)), some (pI 0)] [] mem (pm_RX cX9_truck (some .int) P) := by
  have h16 := hW.2.2.2.2.1
  have h4 := hW.2.2.1
  have lp : ∀ j t, t + j = K 40 → PR cX9_truck RX9 5 2 44 70 [some (pR 10009909 0), some (pI (nI i)), some (pI (nI 4)), some (pI (nI (sm (fun t => if K (101 + 6 * t) = i then K (103 + 6 * t) else 0) t))), some (pI (nI t))] [] mem (pm_RX cX9_truck (some .int) P) := by
    intro j
    induction j with
    | zero =>
      intro t hj
      have e : t = K 40 := by omega
      subst e
      refine pr_iload 72 dX9_truck_70 rfl rfl ?_
      refine pr_aload_n 73 dX9_truck_72 rfl rfl rfl ?_
      refine pr_invD0 76 dX9_truck_73 vX9_173 mX9_trips (sp_X9_trips h1) ⟨Nat.le_of_ble_eq_true rfl, Nat.le_of_ble_eq_true rfl⟩ (Nat.le_of_ble_eq_true rfl) rfl ?_
      refine pr_icmp_ge 222 79 dX9_truck_76 rfl rfl (fun c_76 => ?_) (fun c_76 => absurd (Int32.le_refl _) (c_76))
      refine pr_iload_n 223 dX9_truck_222 rfl rfl rfl ?_
      refine pr_ireturn dX9_truck_223 rfl ?_
      exact hP
    | succ j ih =>
      intro t hj
      obtain ⟨a1, a2, -⟩ := hW.2.2.2.2.2.2.2.2.1 t (by omega)
      refine pr_iload 72 dX9_truck_70 rfl rfl ?_
      refine pr_aload_n 73 dX9_truck_72 rfl rfl rfl ?_
      refine pr_invD0 76 dX9_truck_73 vX9_173 mX9_trips (sp_X9_trips h1) ⟨Nat.le_of_ble_eq_true rfl, Nat.le_of_ble_eq_true rfl⟩ (Nat.le_of_ble_eq_true rfl) rfl ?_
      refine pr_icmp_ge 222 79 dX9_truck_76 rfl rfl (fun c_76 => absurd (c_76) (nI_ge (by omega) (by omega))) (fun c_76 => ?_)
      refine pr_aload_n 80 dX9_truck_79 rfl rfl rfl ?_
      refine pr_iload 82 dX9_truck_80 rfl rfl ?_
      refine pr_iconst (0) 83 dX9_truck_82 (by decide) rfl ?_
      refine pr_invD2 86 dX9_truck_83 vX9_182 mX9_its (sp_its0 h1 t (by omega)) ⟨Nat.le_of_ble_eq_true rfl, Nat.le_of_ble_eq_true rfl⟩ (Nat.le_of_ble_eq_true rfl) rfl ?_
      refine pr_iload_n 87 dX9_truck_86 rfl rfl rfl ?_
      refine pr_icmp_eq 93 90 dX9_truck_87 rfl rfl (fun c_87 => ?_) (fun c_87 => ?_)
      · rw [nI_eq (by omega) (by omega)] at c_87
        refine pr_iload_n 94 dX9_truck_93 rfl rfl rfl ?_
        refine pr_table 151 dX9_truck_94 (Or.inr ⟨by decide, by decide, 57, rfl, rfl⟩) ?_
        refine pr_iload_n 152 dX9_truck_151 rfl rfl rfl ?_
        refine pr_aload_n 153 dX9_truck_152 rfl rfl rfl ?_
        refine pr_iload 155 dX9_truck_153 rfl rfl ?_
        refine pr_iconst (2) 156 dX9_truck_155 (by decide) rfl ?_
        refine pr_invD2 159 dX9_truck_156 vX9_182 mX9_its (sp_its2 h1 t (by omega)) ⟨Nat.le_of_ble_eq_true rfl, Nat.le_of_ble_eq_true rfl⟩ (Nat.le_of_ble_eq_true rfl) rfl ?_
        refine pr_iadd 160 dX9_truck_159 rfl ?_
        rw [nI_add]
        refine pr_istore_n 161 dX9_truck_160 rfl (pm_st_3 rfl rfl) rfl ?_
        refine pr_goto 216 dX9_truck_161 rfl ?_
        refine pr_iinc 219 dX9_truck_216 rfl (by first | exact pm_inc _ | rfl) (pm_st_4 rfl rfl) rfl ?_
        refine pr_goto 70 dX9_truck_219 rfl ?_
        have := ih (t + 1) (by omega)
        rw [sm, if_pos c_87] at this
        exact this
      · rw [nI_eq (by omega) (by omega)] at c_87
        refine pr_goto 216 dX9_truck_90 rfl ?_
        refine pr_iinc 219 dX9_truck_216 rfl (by first | exact pm_inc _ | rfl) (pm_st_4 rfl rfl) rfl ?_
        refine pr_goto 70 dX9_truck_219 rfl ?_
        have := ih (t + 1) (by omega)
        rw [sm, if_neg c_87, Nat.add_zero] at this
        exact this
  exact lp (K 40) 0 (by omega)
set_option maxRecDepth 100000 in
theorem lp_truck5 (h1 : rowR 20869371 mem K) (hW : WF K) {i : Nat} (hi : i < K 38) {P : Option pm_v → pm_M → Prop} (hP : P (some (pI (nI (sm (fun t => if K (101 + 6 * t) = i ∧ ¬ K (4 + t) = 0 then K (4 + t) - 1 else 0) (K 40))))) mem) : PR cX9_truck RX9 5 2 44 70 [some (pR 10009909 0), some (pI (nI i)), some (pI (nI 5)), some (pI (0)), some (pI 0)] [] mem (pm_RX cX9_truck (some .int) P) := by
  have h16 := hW.2.2.2.2.1
  have h4 := hW.2.2.1
  have lp : ∀ j t, t + j = K 40 → PR cX9_truck RX9 5 2 44 70 [some (pR 10009909 0), some (pI (nI i)), some (pI (nI 5)), some (pI (nI (sm (fun t => if K (101 + 6 * t) = i ∧ ¬ K (4 + t) = 0 then K (4 + t) - 1 else 0) t))), some (pI (nI t))] [] mem (pm_RX cX9_truck (some .int) P) := by
    intro j
    induction j with
    | zero =>
      intro t hj
      have e : t = K 40 := by omega
      subst e
      refine pr_iload 72 dX9_truck_70 rfl rfl ?_
      refine pr_aload_n 73 dX9_truck_72 rfl rfl rfl ?_
      refine pr_invD0 76 dX9_truck_73 vX9_173 mX9_trips (sp_X9_trips h1) ⟨Nat.le_of_ble_eq_true rfl, Nat.le_of_ble_eq_true rfl⟩ (Nat.le_of_ble_eq_true rfl) rfl ?_
      refine pr_icmp_ge 222 79 dX9_truck_76 rfl rfl (fun c_76 => ?_) (fun c_76 => absurd (Int32.le_refl _) (c_76))
      refine pr_iload_n 223 dX9_truck_222 rfl rfl rfl ?_
      refine pr_ireturn dX9_truck_223 rfl ?_
      exact hP
    | succ j ih =>
      intro t hj
      obtain ⟨a1, a2, -⟩ := hW.2.2.2.2.2.2.2.2.1 t (by omega)
      refine pr_iload 72 dX9_truck_70 rfl rfl ?_
      refine pr_aload_n 73 dX9_truck_72 rfl rfl rfl ?_
      refine pr_invD0 76 dX9_truck_73 vX9_173 mX9_trips (sp_X9_trips h1) ⟨Nat.le_of_ble_eq_true rfl, Nat.le_of_ble_eq_true rfl⟩ (Nat.le_of_ble_eq_true rfl) rfl ?_
      refine pr_icmp_ge 222 79 dX9_truck_76 rfl rfl (fun c_76 => absurd (c_76) (nI_ge (by omega) (by omega))) (fun c_76 => ?_)
      refine pr_aload_n 80 dX9_truck_79 rfl rfl rfl ?_
      refine pr_iload 82 dX9_truck_80 rfl rfl ?_
      refine pr_iconst (0) 83 dX9_truck_82 (by decide) rfl ?_
      refine pr_invD2 86 dX9_truck_83 vX9_182 mX9_its (sp_its0 h1 t (by omega)) ⟨Nat.le_of_ble_eq_true rfl, Nat.le_of_ble_eq_true rfl⟩ (Nat.le_of_ble_eq_true rfl) rfl ?_
      refine pr_iload_n 87 dX9_truck_86 rfl rfl rfl ?_
      refine pr_icmp_eq 93 90 dX9_truck_87 rfl rfl (fun c_87 => ?_) (fun c_87 => ?_)
      · rw [nI_eq (by omega) (by omega)] at c_87
        refine pr_iload_n 94 dX9_truck_93 rfl rfl rfl ?_
        refine pr_table 164 dX9_truck_94 (Or.inr ⟨by decide, by decide, 70, rfl, rfl⟩) ?_
        refine pr_iload_n 165 dX9_truck_164 rfl rfl rfl ?_
        refine pr_aload_n 166 dX9_truck_165 rfl rfl rfl ?_
        refine pr_getR0 169 dX9_truck_166 fX9_64 rfl ?_
        refine pr_iconst (4) 170 dX9_truck_169 (by decide) rfl ?_
        refine pr_iload 172 dX9_truck_170 rfl rfl ?_
        refine pr_iadd 173 dX9_truck_172 rfl ?_
        refine pr_iaload (4 + t) 174 dX9_truck_173 rfl rfl (nI_add 4 t) (by omega) rfl ?_
        rw [h1.2 t (by omega)]
        refine pr_iconst (-1) 175 dX9_truck_174 (by decide) rfl ?_
        refine pr_icmp_ne 182 178 dX9_truck_175 rfl rfl (fun c_175 => ?_) (fun c_175 => ?_)
        · rw [fuI a1] at c_175
          refine pr_aload_n 183 dX9_truck_182 rfl rfl rfl ?_
          refine pr_getR0 186 dX9_truck_183 fX9_64 rfl ?_
          refine pr_iconst (4) 187 dX9_truck_186 (by decide) rfl ?_
          refine pr_iload 189 dX9_truck_187 rfl rfl ?_
          refine pr_iadd 190 dX9_truck_189 rfl ?_
          refine pr_iaload (4 + t) 191 dX9_truck_190 rfl rfl (nI_add 4 t) (by omega) rfl ?_
          rw [h1.2 t (by omega)]
          refine pr_iadd 192 dX9_truck_191 rfl ?_
          rw [fuV c_175, nI_add]
          refine pr_istore_n 193 dX9_truck_192 rfl (pm_st_3 rfl rfl) rfl ?_
          refine pr_goto 216 dX9_truck_193 rfl ?_
          refine pr_iinc 219 dX9_truck_216 rfl (by first | exact pm_inc _ | rfl) (pm_st_4 rfl rfl) rfl ?_
          refine pr_goto 70 dX9_truck_219 rfl ?_
          have := ih (t + 1) (by omega)
          rw [sm, if_pos ⟨c_87, c_175⟩] at this
          exact this
        · rw [fuI a1] at c_175
          refine pr_iconst (0) 179 dX9_truck_178 (by decide) rfl ?_
          refine pr_goto 191 dX9_truck_179 rfl ?_
          refine pr_iadd 192 dX9_truck_191 rfl ?_
          rw [Int32.add_zero]
          refine pr_istore_n 193 dX9_truck_192 rfl (pm_st_3 rfl rfl) rfl ?_
          refine pr_goto 216 dX9_truck_193 rfl ?_
          refine pr_iinc 219 dX9_truck_216 rfl (by first | exact pm_inc _ | rfl) (pm_st_4 rfl rfl) rfl ?_
          refine pr_goto 70 dX9_truck_219 rfl ?_
          have := ih (t + 1) (by omega)
          rw [sm, if_neg (fun z => z.2 c_175), Nat.add_zero] at this
          exact this
      · rw [nI_eq (by omega) (by omega)] at c_87
        refine pr_goto 216 dX9_truck_90 rfl ?_
        refine pr_iinc 219 dX9_truck_216 rfl (by first | exact pm_inc _ | rfl) (pm_st_4 rfl rfl) rfl ?_
        refine pr_goto 70 dX9_truck_219 rfl ?_
        have := ih (t + 1) (by omega)
        rw [sm, if_neg (fun z => c_87 z.1), Nat.add_zero] at this
        exact this
  exact lp (K 40) 0 (by omega)
set_option maxRecDepth 100000 in
theorem lp_truck6 (h1 : rowR 20869371 mem K) (hW : WF K) {i : Nat} (hi : i < K 38) {P : Option pm_v → pm_M → Prop} (hP : P (some (pI (onI (lt K i (K 40))))) mem) : PR cX9_truck RX9 5 2 44 70 [some (pR 10009909 0), some (pI (nI i)), some (pI (nI 6)), some (pI (-1)), some (pI 0)] [] mem (pm_RX cX9_truck (some .int) P) := by
  have h16 := hW.2.2.2.2.1
  have h4 := hW.2.2.1
  have lp : ∀ j t, t + j = K 40 → PR cX9_truck RX9 5 2 44 70 [some (pR 10009909 0), some (pI (nI i)), some (pI (nI 6)), some (pI (onI (lt K i t))), some (pI (nI t))] [] mem (pm_RX cX9_truck (some .int) P) := by
    intro j
    induction j with
    | zero =>
      intro t hj
      have e : t = K 40 := by omega
      subst e
      refine pr_iload 72 dX9_truck_70 rfl rfl ?_
      refine pr_aload_n 73 dX9_truck_72 rfl rfl rfl ?_
      refine pr_invD0 76 dX9_truck_73 vX9_173 mX9_trips (sp_X9_trips h1) ⟨Nat.le_of_ble_eq_true rfl, Nat.le_of_ble_eq_true rfl⟩ (Nat.le_of_ble_eq_true rfl) rfl ?_
      refine pr_icmp_ge 222 79 dX9_truck_76 rfl rfl (fun c_76 => ?_) (fun c_76 => absurd (Int32.le_refl _) (c_76))
      refine pr_iload_n 223 dX9_truck_222 rfl rfl rfl ?_
      refine pr_ireturn dX9_truck_223 rfl ?_
      exact hP
    | succ j ih =>
      intro t hj
      obtain ⟨a1, a2, -⟩ := hW.2.2.2.2.2.2.2.2.1 t (by omega)
      refine pr_iload 72 dX9_truck_70 rfl rfl ?_
      refine pr_aload_n 73 dX9_truck_72 rfl rfl rfl ?_
      refine pr_invD0 76 dX9_truck_73 vX9_173 mX9_trips (sp_X9_trips h1) ⟨Nat.le_of_ble_eq_true rfl, Nat.le_of_ble_eq_true rfl⟩ (Nat.le_of_ble_eq_true rfl) rfl ?_
      refine pr_icmp_ge 222 79 dX9_truck_76 rfl rfl (fun c_76 => absurd (c_76) (nI_ge (by omega) (by omega))) (fun c_76 => ?_)
      refine pr_aload_n 80 dX9_truck_79 rfl rfl rfl ?_
      refine pr_iload 82 dX9_truck_80 rfl rfl ?_
      refine pr_iconst (0) 83 dX9_truck_82 (by decide) rfl ?_
      refine pr_invD2 86 dX9_truck_83 vX9_182 mX9_its (sp_its0 h1 t (by omega)) ⟨Nat.le_of_ble_eq_true rfl, Nat.le_of_ble_eq_true rfl⟩ (Nat.le_of_ble_eq_true rfl) rfl ?_
      refine pr_iload_n 87 dX9_truck_86 rfl rfl rfl ?_
      refine pr_icmp_eq 93 90 dX9_truck_87 rfl rfl (fun c_87 => ?_) (fun c_87 => ?_)
      · rw [nI_eq (by omega) (by omega)] at c_87
        refine pr_iload_n 94 dX9_truck_93 rfl rfl rfl ?_
        refine pr_table 196 dX9_truck_94 (Or.inr ⟨by decide, by decide, 102, rfl, rfl⟩) ?_
        refine pr_aload_n 197 dX9_truck_196 rfl rfl rfl ?_
        refine pr_iload 199 dX9_truck_197 rfl rfl ?_
        refine pr_iconst (4) 200 dX9_truck_199 (by decide) rfl ?_
        refine pr_invD2 203 dX9_truck_200 vX9_182 mX9_its (sp_its4 h1 t (by omega)) ⟨Nat.le_of_ble_eq_true rfl, Nat.le_of_ble_eq_true rfl⟩ (Nat.le_of_ble_eq_true rfl) rfl ?_
        refine pr_istore_n 204 dX9_truck_203 rfl (pm_st_3 rfl rfl) rfl ?_
        refine pr_goto 216 dX9_truck_204 rfl ?_
        refine pr_iinc 219 dX9_truck_216 rfl (by first | exact pm_inc _ | rfl) (pm_st_4 rfl rfl) rfl ?_
        refine pr_goto 70 dX9_truck_219 rfl ?_
        have := ih (t + 1) (by omega)
        rw [lt, if_pos c_87] at this
        exact this
      · rw [nI_eq (by omega) (by omega)] at c_87
        refine pr_goto 216 dX9_truck_90 rfl ?_
        refine pr_iinc 219 dX9_truck_216 rfl (by first | exact pm_inc _ | rfl) (pm_st_4 rfl rfl) rfl ?_
        refine pr_goto 70 dX9_truck_219 rfl ?_
        have := ih (t + 1) (by omega)
        rw [lt, if_neg c_87] at this
        exact this
  exact lp (K 40) 0 (by omega)
set_option maxRecDepth 100000 in
theorem lp_truck7 (h1 : rowR 20869371 mem K) (hW : WF K) {i : Nat} (hi : i < K 38) {P : Option pm_v → pm_M → Prop} (hP : P (some (pI (nI (sm (fun t => if K (101 + 6 * t) = i then est K t else 0) (K 40))))) mem) : PR cX9_truck RX9 5 2 44 70 [some (pR 10009909 0), some (pI (nI i)), some (pI (nI 7)), some (pI (0)), some (pI 0)] [] mem (pm_RX cX9_truck (some .int) P) := by
  have h16 := hW.2.2.2.2.1
  have h4 := hW.2.2.1
  have lp : ∀ j t, t + j = K 40 → PR cX9_truck RX9 5 2 44 70 [some (pR 10009909 0), some (pI (nI i)), some (pI (nI 7)), some (pI (nI (sm (fun t => if K (101 + 6 * t) = i then est K t else 0) t))), some (pI (nI t))] [] mem (pm_RX cX9_truck (some .int) P) := by
    intro j
    induction j with
    | zero =>
      intro t hj
      have e : t = K 40 := by omega
      subst e
      refine pr_iload 72 dX9_truck_70 rfl rfl ?_
      refine pr_aload_n 73 dX9_truck_72 rfl rfl rfl ?_
      refine pr_invD0 76 dX9_truck_73 vX9_173 mX9_trips (sp_X9_trips h1) ⟨Nat.le_of_ble_eq_true rfl, Nat.le_of_ble_eq_true rfl⟩ (Nat.le_of_ble_eq_true rfl) rfl ?_
      refine pr_icmp_ge 222 79 dX9_truck_76 rfl rfl (fun c_76 => ?_) (fun c_76 => absurd (Int32.le_refl _) (c_76))
      refine pr_iload_n 223 dX9_truck_222 rfl rfl rfl ?_
      refine pr_ireturn dX9_truck_223 rfl ?_
      exact hP
    | succ j ih =>
      intro t hj
      obtain ⟨a1, a2, -⟩ := hW.2.2.2.2.2.2.2.2.1 t (by omega)
      refine pr_iload 72 dX9_truck_70 rfl rfl ?_
      refine pr_aload_n 73 dX9_truck_72 rfl rfl rfl ?_
      refine pr_invD0 76 dX9_truck_73 vX9_173 mX9_trips (sp_X9_trips h1) ⟨Nat.le_of_ble_eq_true rfl, Nat.le_of_ble_eq_true rfl⟩ (Nat.le_of_ble_eq_true rfl) rfl ?_
      refine pr_icmp_ge 222 79 dX9_truck_76 rfl rfl (fun c_76 => absurd (c_76) (nI_ge (by omega) (by omega))) (fun c_76 => ?_)
      refine pr_aload_n 80 dX9_truck_79 rfl rfl rfl ?_
      refine pr_iload 82 dX9_truck_80 rfl rfl ?_
      refine pr_iconst (0) 83 dX9_truck_82 (by decide) rfl ?_
      refine pr_invD2 86 dX9_truck_83 vX9_182 mX9_its (sp_its0 h1 t (by omega)) ⟨Nat.le_of_ble_eq_true rfl, Nat.le_of_ble_eq_true rfl⟩ (Nat.le_of_ble_eq_true rfl) rfl ?_
      refine pr_iload_n 87 dX9_truck_86 rfl rfl rfl ?_
      refine pr_icmp_eq 93 90 dX9_truck_87 rfl rfl (fun c_87 => ?_) (fun c_87 => ?_)
      · rw [nI_eq (by omega) (by omega)] at c_87
        refine pr_iload_n 94 dX9_truck_93 rfl rfl rfl ?_
        refine pr_table 207 dX9_truck_94 (Or.inl ⟨by decide, rfl⟩) ?_
        refine pr_iload_n 208 dX9_truck_207 rfl rfl rfl ?_
        refine pr_aload_n 209 dX9_truck_208 rfl rfl rfl ?_
        refine pr_iload 211 dX9_truck_209 rfl rfl ?_
        refine pr_invD1 214 dX9_truck_211 vX9_192 mX9_estimateOf (sp_X9_estimateOf h1 hW (by omega)) ⟨Nat.le_of_ble_eq_true rfl, Nat.le_of_ble_eq_true rfl⟩ (Nat.le_of_ble_eq_true rfl) rfl ?_
        refine pr_iadd 215 dX9_truck_214 rfl ?_
        rw [nI_add]
        refine pr_istore_n 216 dX9_truck_215 rfl (pm_st_3 rfl rfl) rfl ?_
        refine pr_iinc 219 dX9_truck_216 rfl (by first | exact pm_inc _ | rfl) (pm_st_4 rfl rfl) rfl ?_
        refine pr_goto 70 dX9_truck_219 rfl ?_
        have := ih (t + 1) (by omega)
        rw [sm, if_pos c_87] at this
        exact this
      · rw [nI_eq (by omega) (by omega)] at c_87
        refine pr_goto 216 dX9_truck_90 rfl ?_
        refine pr_iinc 219 dX9_truck_216 rfl (by first | exact pm_inc _ | rfl) (pm_st_4 rfl rfl) rfl ?_
        refine pr_goto 70 dX9_truck_219 rfl ?_
        have := ih (t + 1) (by omega)
        rw [sm, if_neg c_87, Nat.add_zero] at this
        exact this
  exact lp (K 40) 0 (by omega)
set_option maxRecDepth 100000 in
theorem sp_X9_truck (h : rowR 20869371 mem0 K) (hW : WF K) (k w : Int32) : Cl yX9_truck cX9_truck 5 (some .int) 2 44 [pR 10009909 0, pI k, pI w] mem0 (mqP mem0 (q_truck K k w) 0) := by
  have h4 := hW.2.2.1
  have h1 : rowR 20869371 (mq1 mem0 0) K := h.q1
  refine Cl.of (own := RX9) rfl rfl (Nat.le_of_ble_eq_true rfl) rfl ?_; show PR _ _ _ _ _ _ [some _, some _, some _, none, none] _ _ _
  rcases hk : vix k (K 38) with _ | i
  · refine pr_aload_n 1 dX9_truck_0 rfl rfl rfl ?_
    refine pr_iconst (0) 2 dX9_truck_1 (by decide) rfl ?_
    refine pr_putI 5 dX9_truck_2 fX9_1 rfl ?_
    refine pr_aload_n 6 dX9_truck_5 rfl rfl rfl ?_
    refine pr_iload_n 7 dX9_truck_6 rfl rfl rfl ?_
    refine pr_invD1 10 dX9_truck_7 vX9_249 mX9_isTruck (sp_X9_isTruck h1 hW _) ⟨Nat.le_of_ble_eq_true rfl, Nat.le_of_ble_eq_true rfl⟩ (Nat.le_of_ble_eq_true rfl) rfl ?_
    refine pr_if_eq 23 13 dX9_truck_10 rfl rfl (fun c_10 => ?_) (fun c_10 => absurd (vb_n hk) (c_10))
    refine pr_iconst (-1) 24 dX9_truck_23 (by decide) rfl ?_
    refine pr_ireturn dX9_truck_24 rfl ?_
    rw [show q_truck K k w = -1 by simp [q_truck, hk]]
    exact mqP.q1
  · rcases hw : vix w 8 with _ | c
    · refine pr_aload_n 1 dX9_truck_0 rfl rfl rfl ?_
      refine pr_iconst (0) 2 dX9_truck_1 (by decide) rfl ?_
      refine pr_putI 5 dX9_truck_2 fX9_1 rfl ?_
      refine pr_aload_n 6 dX9_truck_5 rfl rfl rfl ?_
      refine pr_iload_n 7 dX9_truck_6 rfl rfl rfl ?_
      refine pr_invD1 10 dX9_truck_7 vX9_249 mX9_isTruck (sp_X9_isTruck h1 hW _) ⟨Nat.le_of_ble_eq_true rfl, Nat.le_of_ble_eq_true rfl⟩ (Nat.le_of_ble_eq_true rfl) rfl ?_
      refine pr_if_eq 23 13 dX9_truck_10 rfl rfl (fun c_10 => absurd (c_10) (vb_s hk)) (fun c_10 => ?_)
      refine pr_iload_n 14 dX9_truck_13 rfl rfl rfl ?_
      refine pr_iconst (0) 15 dX9_truck_14 (by decide) rfl ?_
      refine pr_bipush (7) 17 dX9_truck_15 (by decide) rfl ?_
      refine pr_ivsD3 20 dX9_truck_17 sX9_113 mX9_isIn (sp_isInM (n := 8) _ (by omega)) ⟨Nat.le_of_ble_eq_true rfl, Nat.le_of_ble_eq_true rfl⟩ (Nat.le_of_ble_eq_true rfl) rfl ?_
      refine pr_if_ne 25 23 dX9_truck_20 rfl rfl (fun c_20 => absurd (vb_n hw) (c_20)) (fun c_20 => ?_)
      refine pr_iconst (-1) 24 dX9_truck_23 (by decide) rfl ?_
      refine pr_ireturn dX9_truck_24 rfl ?_
      rw [show q_truck K k w = -1 by simp [q_truck, hk, hw]]
      exact mqP.q1
    · rw [q_truck_c hk hw]
      obtain ⟨rfl, hi⟩ := vix_some (by omega) hk
      obtain ⟨rfl, hc⟩ := vix_some (by omega) hw
      rcases (by omega : c = 0 ∨ c = 1 ∨ c = 2 ∨ c = 3 ∨ c = 4 ∨ c = 5 ∨ c = 6 ∨ c = 7) with rfl | rfl | rfl | rfl | rfl | rfl | rfl | rfl
      · refine pr_aload_n 1 dX9_truck_0 rfl rfl rfl ?_
        refine pr_iconst (0) 2 dX9_truck_1 (by decide) rfl ?_
        refine pr_putI 5 dX9_truck_2 fX9_1 rfl ?_
        refine pr_aload_n 6 dX9_truck_5 rfl rfl rfl ?_
        refine pr_iload_n 7 dX9_truck_6 rfl rfl rfl ?_
        refine pr_invD1 10 dX9_truck_7 vX9_249 mX9_isTruck (sp_X9_isTruck h1 hW _) ⟨Nat.le_of_ble_eq_true rfl, Nat.le_of_ble_eq_true rfl⟩ (Nat.le_of_ble_eq_true rfl) rfl ?_
        refine pr_if_eq 23 13 dX9_truck_10 rfl rfl (fun c_10 => absurd (c_10) (vb_s hk)) (fun c_10 => ?_)
        refine pr_iload_n 14 dX9_truck_13 rfl rfl rfl ?_
        refine pr_iconst (0) 15 dX9_truck_14 (by decide) rfl ?_
        refine pr_bipush (7) 17 dX9_truck_15 (by decide) rfl ?_
        refine pr_ivsD3 20 dX9_truck_17 sX9_113 mX9_isIn (sp_isInM (n := 8) _ (by omega)) ⟨Nat.le_of_ble_eq_true rfl, Nat.le_of_ble_eq_true rfl⟩ (Nat.le_of_ble_eq_true rfl) rfl ?_
        refine pr_if_ne 25 23 dX9_truck_20 rfl rfl (fun c_20 => ?_) (fun c_20 => absurd (c_20) (vb_s hw))
        refine pr_iload_n 26 dX9_truck_25 rfl rfl rfl ?_
        refine pr_iconst (2) 27 dX9_truck_26 (by decide) rfl ?_
        refine pr_icmp_ge 55 30 dX9_truck_27 rfl rfl (fun c_27 => absurd (c_27) (by decide)) (fun c_27 => ?_)
        refine pr_iload_n 31 dX9_truck_30 rfl rfl rfl ?_
        refine pr_if_ne 46 34 dX9_truck_31 rfl rfl (fun c_31 => absurd (by decide) (c_31)) (fun c_31 => ?_)
        refine pr_aload_n 35 dX9_truck_34 rfl rfl rfl ?_
        refine pr_getR0 38 dX9_truck_35 fX9_64 rfl ?_
        refine pr_bipush (65) 40 dX9_truck_38 (by decide) rfl ?_
        refine pr_iload_n 41 dX9_truck_40 rfl rfl rfl ?_
        refine pr_iadd 42 dX9_truck_41 rfl ?_
        refine pr_iaload (65 + i) 43 dX9_truck_42 rfl rfl (nI_add 65 i) (by omega) rfl ?_
        rw [h1.1 _ (by omega) (by omega)]
        refine pr_goto 54 dX9_truck_43 rfl ?_
        refine pr_ireturn dX9_truck_54 rfl ?_
        exact mqP.q1
      · refine pr_aload_n 1 dX9_truck_0 rfl rfl rfl ?_
        refine pr_iconst (0) 2 dX9_truck_1 (by decide) rfl ?_
        refine pr_putI 5 dX9_truck_2 fX9_1 rfl ?_
        refine pr_aload_n 6 dX9_truck_5 rfl rfl rfl ?_
        refine pr_iload_n 7 dX9_truck_6 rfl rfl rfl ?_
        refine pr_invD1 10 dX9_truck_7 vX9_249 mX9_isTruck (sp_X9_isTruck h1 hW _) ⟨Nat.le_of_ble_eq_true rfl, Nat.le_of_ble_eq_true rfl⟩ (Nat.le_of_ble_eq_true rfl) rfl ?_
        refine pr_if_eq 23 13 dX9_truck_10 rfl rfl (fun c_10 => absurd (c_10) (vb_s hk)) (fun c_10 => ?_)
        refine pr_iload_n 14 dX9_truck_13 rfl rfl rfl ?_
        refine pr_iconst (0) 15 dX9_truck_14 (by decide) rfl ?_
        refine pr_bipush (7) 17 dX9_truck_15 (by decide) rfl ?_
        refine pr_ivsD3 20 dX9_truck_17 sX9_113 mX9_isIn (sp_isInM (n := 8) _ (by omega)) ⟨Nat.le_of_ble_eq_true rfl, Nat.le_of_ble_eq_true rfl⟩ (Nat.le_of_ble_eq_true rfl) rfl ?_
        refine pr_if_ne 25 23 dX9_truck_20 rfl rfl (fun c_20 => ?_) (fun c_20 => absurd (c_20) (vb_s hw))
        refine pr_iload_n 26 dX9_truck_25 rfl rfl rfl ?_
        refine pr_iconst (2) 27 dX9_truck_26 (by decide) rfl ?_
        refine pr_icmp_ge 55 30 dX9_truck_27 rfl rfl (fun c_27 => absurd (c_27) (by decide)) (fun c_27 => ?_)
        refine pr_iload_n 31 dX9_truck_30 rfl rfl rfl ?_
        refine pr_if_ne 46 34 dX9_truck_31 rfl rfl (fun c_31 => ?_) (fun c_31 => absurd (c_31) (by decide))
        refine pr_aload_n 47 dX9_truck_46 rfl rfl rfl ?_
        refine pr_getR0 50 dX9_truck_47 fX9_64 rfl ?_
        refine pr_iconst (0) 51 dX9_truck_50 (by decide) rfl ?_
        refine pr_iload_n 52 dX9_truck_51 rfl rfl rfl ?_
        refine pr_iadd 53 dX9_truck_52 rfl ?_
        refine pr_iaload i 54 dX9_truck_53 rfl rfl (by rw [← nI_0, nI_add, Nat.zero_add]) (by omega) rfl ?_
        rw [h1.1 _ (by omega) (by omega)]
        refine pr_ireturn dX9_truck_54 rfl ?_
        exact mqP.q1
      · refine pr_aload_n 1 dX9_truck_0 rfl rfl rfl ?_
        refine pr_iconst (0) 2 dX9_truck_1 (by decide) rfl ?_
        refine pr_putI 5 dX9_truck_2 fX9_1 rfl ?_
        refine pr_aload_n 6 dX9_truck_5 rfl rfl rfl ?_
        refine pr_iload_n 7 dX9_truck_6 rfl rfl rfl ?_
        refine pr_invD1 10 dX9_truck_7 vX9_249 mX9_isTruck (sp_X9_isTruck h1 hW _) ⟨Nat.le_of_ble_eq_true rfl, Nat.le_of_ble_eq_true rfl⟩ (Nat.le_of_ble_eq_true rfl) rfl ?_
        refine pr_if_eq 23 13 dX9_truck_10 rfl rfl (fun c_10 => absurd (c_10) (vb_s hk)) (fun c_10 => ?_)
        refine pr_iload_n 14 dX9_truck_13 rfl rfl rfl ?_
        refine pr_iconst (0) 15 dX9_truck_14 (by decide) rfl ?_
        refine pr_bipush (7) 17 dX9_truck_15 (by decide) rfl ?_
        refine pr_ivsD3 20 dX9_truck_17 sX9_113 mX9_isIn (sp_isInM (n := 8) _ (by omega)) ⟨Nat.le_of_ble_eq_true rfl, Nat.le_of_ble_eq_true rfl⟩ (Nat.le_of_ble_eq_true rfl) rfl ?_
        refine pr_if_ne 25 23 dX9_truck_20 rfl rfl (fun c_20 => ?_) (fun c_20 => absurd (c_20) (vb_s hw))
        refine pr_iload_n 26 dX9_truck_25 rfl rfl rfl ?_
        refine pr_iconst (2) 27 dX9_truck_26 (by decide) rfl ?_
        refine pr_icmp_ge 55 30 dX9_truck_27 rfl rfl (fun c_27 => ?_) (fun c_27 => absurd (by decide) (c_27))
        refine pr_iload_n 56 dX9_truck_55 rfl rfl rfl ?_
        refine pr_bipush (6) 58 dX9_truck_56 (by decide) rfl ?_
        refine pr_icmp_ne 65 61 dX9_truck_58 rfl rfl (fun c_58 => ?_) (fun c_58 => absurd (c_58) (by decide))
        refine pr_iconst (0) 66 dX9_truck_65 (by decide) rfl ?_
        refine pr_istore_n 67 dX9_truck_66 rfl (pm_st_3 rfl rfl) rfl ?_
        refine pr_iconst (0) 68 dX9_truck_67 (by decide) rfl ?_
        refine pr_istore 70 dX9_truck_68 (pm_st_4 rfl rfl) rfl ?_
        exact lp_truck2 h1 hW hi mqP.q1
      · refine pr_aload_n 1 dX9_truck_0 rfl rfl rfl ?_
        refine pr_iconst (0) 2 dX9_truck_1 (by decide) rfl ?_
        refine pr_putI 5 dX9_truck_2 fX9_1 rfl ?_
        refine pr_aload_n 6 dX9_truck_5 rfl rfl rfl ?_
        refine pr_iload_n 7 dX9_truck_6 rfl rfl rfl ?_
        refine pr_invD1 10 dX9_truck_7 vX9_249 mX9_isTruck (sp_X9_isTruck h1 hW _) ⟨Nat.le_of_ble_eq_true rfl, Nat.le_of_ble_eq_true rfl⟩ (Nat.le_of_ble_eq_true rfl) rfl ?_
        refine pr_if_eq 23 13 dX9_truck_10 rfl rfl (fun c_10 => absurd (c_10) (vb_s hk)) (fun c_10 => ?_)
        refine pr_iload_n 14 dX9_truck_13 rfl rfl rfl ?_
        refine pr_iconst (0) 15 dX9_truck_14 (by decide) rfl ?_
        refine pr_bipush (7) 17 dX9_truck_15 (by decide) rfl ?_
        refine pr_ivsD3 20 dX9_truck_17 sX9_113 mX9_isIn (sp_isInM (n := 8) _ (by omega)) ⟨Nat.le_of_ble_eq_true rfl, Nat.le_of_ble_eq_true rfl⟩ (Nat.le_of_ble_eq_true rfl) rfl ?_
        refine pr_if_ne 25 23 dX9_truck_20 rfl rfl (fun c_20 => ?_) (fun c_20 => absurd (c_20) (vb_s hw))
        refine pr_iload_n 26 dX9_truck_25 rfl rfl rfl ?_
        refine pr_iconst (2) 27 dX9_truck_26 (by decide) rfl ?_
        refine pr_icmp_ge 55 30 dX9_truck_27 rfl rfl (fun c_27 => ?_) (fun c_27 => absurd (by decide) (c_27))
        refine pr_iload_n 56 dX9_truck_55 rfl rfl rfl ?_
        refine pr_bipush (6) 58 dX9_truck_56 (by decide) rfl ?_
        refine pr_icmp_ne 65 61 dX9_truck_58 rfl rfl (fun c_58 => ?_) (fun c_58 => absurd (c_58) (by decide))
        refine pr_iconst (0) 66 dX9_truck_65 (by decide) rfl ?_
        refine pr_istore_n 67 dX9_truck_66 rfl (pm_st_3 rfl rfl) rfl ?_
        refine pr_iconst (0) 68 dX9_truck_67 (by decide) rfl ?_
        refine pr_istore 70 dX9_truck_68 (pm_st_4 rfl rfl) rfl ?_
        exact lp_truck3 h1 hW hi mqP.q1
      · refine pr_aload_n 1 dX9_truck_0 rfl rfl rfl ?_
        refine pr_iconst (0) 2 dX9_truck_1 (by decide) rfl ?_
        refine pr_putI 5 dX9_truck_2 fX9_1 rfl ?_
        refine pr_aload_n 6 dX9_truck_5 rfl rfl rfl ?_
        refine pr_iload_n 7 dX9_truck_6 rfl rfl rfl ?_
        refine pr_invD1 10 dX9_truck_7 vX9_249 mX9_isTruck (sp_X9_isTruck h1 hW _) ⟨Nat.le_of_ble_eq_true rfl, Nat.le_of_ble_eq_true rfl⟩ (Nat.le_of_ble_eq_true rfl) rfl ?_
        refine pr_if_eq 23 13 dX9_truck_10 rfl rfl (fun c_10 => absurd (c_10) (vb_s hk)) (fun c_10 => ?_)
        refine pr_iload_n 14 dX9_truck_13 rfl rfl rfl ?_
        refine pr_iconst (0) 15 dX9_truck_14 (by decide) rfl ?_
        refine pr_bipush (7) 17 dX9_truck_15 (by decide) rfl ?_
        refine pr_ivsD3 20 dX9_truck_17 sX9_113 mX9_isIn (sp_isInM (n := 8) _ (by omega)) ⟨Nat.le_of_ble_eq_true rfl, Nat.le_of_ble_eq_true rfl⟩ (Nat.le_of_ble_eq_true rfl) rfl ?_
        refine pr_if_ne 25 23 dX9_truck_20 rfl rfl (fun c_20 => ?_) (fun c_20 => absurd (c_20) (vb_s hw))
        refine pr_iload_n 26 dX9_truck_25 rfl rfl rfl ?_
        refine pr_iconst (2) 27 dX9_truck_26 (by decide) rfl ?_
        refine pr_icmp_ge 55 30 dX9_truck_27 rfl rfl (fun c_27 => ?_) (fun c_27 => absurd (by decide) (c_27))
        refine pr_iload_n 56 dX9_truck_55 rfl rfl rfl ?_
        refine pr_bipush (6) 58 dX9_truck_56 (by decide) rfl ?_
        refine pr_icmp_ne 65 61 dX9_truck_58 rfl rfl (fun c_58 => ?_) (fun c_58 => absurd (c_58) (by decide))
        refine pr_iconst (0) 66 dX9_truck_65 (by decide) rfl ?_
        refine pr_istore_n 67 dX9_truck_66 rfl (pm_st_3 rfl rfl) rfl ?_
        refine pr_iconst (0) 68 dX9_truck_67 (by decide) rfl ?_
        refine pr_istore 70 dX9_truck_68 (pm_st_4 rfl rfl) rfl ?_
        exact lp_truck4 h1 hW hi mqP.q1
      · refine pr_aload_n 1 dX9_truck_0 rfl rfl rfl ?_
        refine pr_iconst (0) 2 dX9_truck_1 (by decide) rfl ?_
        refine pr_putI 5 dX9_truck_2 fX9_1 rfl ?_
        refine pr_aload_n 6 dX9_truck_5 rfl rfl rfl ?_
        refine pr_iload_n 7 dX9_truck_6 rfl rfl rfl ?_
        refine pr_invD1 10 dX9_truck_7 vX9_249 mX9_isTruck (sp_X9_isTruck h1 hW _) ⟨Nat.le_of_ble_eq_true rfl, Nat.le_of_ble_eq_true rfl⟩ (Nat.le_of_ble_eq_true rfl) rfl ?_
        refine pr_if_eq 23 13 dX9_truck_10 rfl rfl (fun c_10 => absurd (c_10) (vb_s hk)) (fun c_10 => ?_)
        refine pr_iload_n 14 dX9_truck_13 rfl rfl rfl ?_
        refine pr_iconst (0) 15 dX9_truck_14 (by decide) rfl ?_
        refine pr_bipush (7) 17 dX9_truck_15 (by decide) rfl ?_
        refine pr_ivsD3 20 dX9_truck_17 sX9_113 mX9_isIn (sp_isInM (n := 8) _ (by omega)) ⟨Nat.le_of_ble_eq_true rfl, Nat.le_of_ble_eq_true rfl⟩ (Nat.le_of_ble_eq_true rfl) rfl ?_
        refine pr_if_ne 25 23 dX9_truck_20 rfl rfl (fun c_20 => ?_) (fun c_20 => absurd (c_20) (vb_s hw))
        refine pr_iload_n 26 dX9_truck_25 rfl rfl rfl ?_
        refine pr_iconst (2) 27 dX9_truck_26 (by decide) rfl ?_
        refine pr_icmp_ge 55 30 dX9_truck_27 rfl rfl (fun c_27 => ?_) (fun c_27 => absurd (by decide) (c_27))
        refine pr_iload_n 56 dX9_truck_55 rfl rfl rfl ?_
        refine pr_bipush (6) 58 dX9_truck_56 (by decide) rfl ?_
        refine pr_icmp_ne 65 61 dX9_truck_58 rfl rfl (fun c_58 => ?_) (fun c_58 => absurd (c_58) (by decide))
        refine pr_iconst (0) 66 dX9_truck_65 (by decide) rfl ?_
        refine pr_istore_n 67 dX9_truck_66 rfl (pm_st_3 rfl rfl) rfl ?_
        refine pr_iconst (0) 68 dX9_truck_67 (by decide) rfl ?_
        refine pr_istore 70 dX9_truck_68 (pm_st_4 rfl rfl) rfl ?_
        exact lp_truck5 h1 hW hi mqP.q1
      · refine pr_aload_n 1 dX9_truck_0 rfl rfl rfl ?_
        refine pr_iconst (0) 2 dX9_truck_1 (by decide) rfl ?_
        refine pr_putI 5 dX9_truck_2 fX9_1 rfl ?_
        refine pr_aload_n 6 dX9_truck_5 rfl rfl rfl ?_
        refine pr_iload_n 7 dX9_truck_6 rfl rfl rfl ?_
        refine pr_invD1 10 dX9_truck_7 vX9_249 mX9_isTruck (sp_X9_isTruck h1 hW _) ⟨Nat.le_of_ble_eq_true rfl, Nat.le_of_ble_eq_true rfl⟩ (Nat.le_of_ble_eq_true rfl) rfl ?_
        refine pr_if_eq 23 13 dX9_truck_10 rfl rfl (fun c_10 => absurd (c_10) (vb_s hk)) (fun c_10 => ?_)
        refine pr_iload_n 14 dX9_truck_13 rfl rfl rfl ?_
        refine pr_iconst (0) 15 dX9_truck_14 (by decide) rfl ?_
        refine pr_bipush (7) 17 dX9_truck_15 (by decide) rfl ?_
        refine pr_ivsD3 20 dX9_truck_17 sX9_113 mX9_isIn (sp_isInM (n := 8) _ (by omega)) ⟨Nat.le_of_ble_eq_true rfl, Nat.le_of_ble_eq_true rfl⟩ (Nat.le_of_ble_eq_true rfl) rfl ?_
        refine pr_if_ne 25 23 dX9_truck_20 rfl rfl (fun c_20 => ?_) (fun c_20 => absurd (c_20) (vb_s hw))
        refine pr_iload_n 26 dX9_truck_25 rfl rfl rfl ?_
        refine pr_iconst (2) 27 dX9_truck_26 (by decide) rfl ?_
        refine pr_icmp_ge 55 30 dX9_truck_27 rfl rfl (fun c_27 => ?_) (fun c_27 => absurd (by decide) (c_27))
        refine pr_iload_n 56 dX9_truck_55 rfl rfl rfl ?_
        refine pr_bipush (6) 58 dX9_truck_56 (by decide) rfl ?_
        refine pr_icmp_ne 65 61 dX9_truck_58 rfl rfl (fun c_58 => absurd (by decide) (c_58)) (fun c_58 => ?_)
        refine pr_iconst (-1) 62 dX9_truck_61 (by decide) rfl ?_
        refine pr_goto 66 dX9_truck_62 rfl ?_
        refine pr_istore_n 67 dX9_truck_66 rfl (pm_st_3 rfl rfl) rfl ?_
        refine pr_iconst (0) 68 dX9_truck_67 (by decide) rfl ?_
        refine pr_istore 70 dX9_truck_68 (pm_st_4 rfl rfl) rfl ?_
        exact lp_truck6 h1 hW hi mqP.q1
      · refine pr_aload_n 1 dX9_truck_0 rfl rfl rfl ?_
        refine pr_iconst (0) 2 dX9_truck_1 (by decide) rfl ?_
        refine pr_putI 5 dX9_truck_2 fX9_1 rfl ?_
        refine pr_aload_n 6 dX9_truck_5 rfl rfl rfl ?_
        refine pr_iload_n 7 dX9_truck_6 rfl rfl rfl ?_
        refine pr_invD1 10 dX9_truck_7 vX9_249 mX9_isTruck (sp_X9_isTruck h1 hW _) ⟨Nat.le_of_ble_eq_true rfl, Nat.le_of_ble_eq_true rfl⟩ (Nat.le_of_ble_eq_true rfl) rfl ?_
        refine pr_if_eq 23 13 dX9_truck_10 rfl rfl (fun c_10 => absurd (c_10) (vb_s hk)) (fun c_10 => ?_)
        refine pr_iload_n 14 dX9_truck_13 rfl rfl rfl ?_
        refine pr_iconst (0) 15 dX9_truck_14 (by decide) rfl ?_
        refine pr_bipush (7) 17 dX9_truck_15 (by decide) rfl ?_
        refine pr_ivsD3 20 dX9_truck_17 sX9_113 mX9_isIn (sp_isInM (n := 8) _ (by omega)) ⟨Nat.le_of_ble_eq_true rfl, Nat.le_of_ble_eq_true rfl⟩ (Nat.le_of_ble_eq_true rfl) rfl ?_
        refine pr_if_ne 25 23 dX9_truck_20 rfl rfl (fun c_20 => ?_) (fun c_20 => absurd (c_20) (vb_s hw))
        refine pr_iload_n 26 dX9_truck_25 rfl rfl rfl ?_
        refine pr_iconst (2) 27 dX9_truck_26 (by decide) rfl ?_
        refine pr_icmp_ge 55 30 dX9_truck_27 rfl rfl (fun c_27 => ?_) (fun c_27 => absurd (by decide) (c_27))
        refine pr_iload_n 56 dX9_truck_55 rfl rfl rfl ?_
        refine pr_bipush (6) 58 dX9_truck_56 (by decide) rfl ?_
        refine pr_icmp_ne 65 61 dX9_truck_58 rfl rfl (fun c_58 => ?_) (fun c_58 => absurd (c_58) (by decide))
        refine pr_iconst (0) 66 dX9_truck_65 (by decide) rfl ?_
        refine pr_istore_n 67 dX9_truck_66 rfl (pm_st_3 rfl rfl) rfl ?_
        refine pr_iconst (0) 68 dX9_truck_67 (by decide) rfl ?_
        refine pr_istore 70 dX9_truck_68 (pm_st_4 rfl rfl) rfl ?_
        exact lp_truck7 h1 hW hi mqP.q1
end MF2
