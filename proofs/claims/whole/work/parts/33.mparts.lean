/-! the reference's parting -/
section MPT
variable {mem0 : pm_M} {c n : Nat} {m : Nat → Nat} {X : Nat → List (Option pm_v) → List pm_v → pm_M → Prop}
def sMP : Nat → Nat → Prop := fun t i => (t = 20017382 ∨ t = 40017385) ∧ i = 0
def gRowM (mem : pm_M) (c : Nat) (s : gT) : Prop := ∀ k, k < c → mem.1 20017382 0 k = nI (s.1 k) ∧ mem.2.1 40017385 0 k = lI (s.2 k)
theorem fr_meaM {mem : pm_M} (hm : ∀ k, k < c → mem0.2.1 40017384 0 k = lN (m k)) (hf : pm_fr sMP mem0 mem) {k : Nat} (hk : k < c) : mem.2.1 40017384 0 k = lN (m k) := by
  rw [(hf 40017384 0 (by simp [sMP])).2.1]; exact hm k hk
theorem sm_b36 (h17 : c ≤ 17) (hmb : ∀ k, k < c → m k < 2147483648) : sm m c < 2 ^ 36 := by
  have : sm m c ≤ sm (fun _ => 2147483648) c := sm_le (fun k hk => by have := hmb k hk; omega)
  rw [sm_const] at this
  omega
set_option maxRecDepth 100000 in
theorem lp_X9_parts1 (h17 : c ≤ 17) (hm : ∀ k, k < c → mem0.2.1 40017384 0 k = lN (m k))
    (hk : PR cX9_parts RX9 8 0 0 27 [some (pR 10009909 0), some (pI (nI n)), some (pI (nI c)), some (pJ (lN (sm m c))), none, some (pI (nI c)), none, none] [] mem0 X) :
    ∀ j k, k + j = c → PR cX9_parts RX9 8 0 0 5 [some (pR 10009909 0), some (pI (nI n)), some (pI (nI c)), some (pJ (lN (sm m k))), none, some (pI (nI k)), none, none] [] mem0 X := by
  intro j
  induction j with
  | zero =>
    intro k hj
    have e : c = k := by omega
    subst e
    refine pr_iload 7 dX9_parts_5 rfl rfl ?_
    refine pr_iload_n 8 dX9_parts_7 rfl rfl rfl ?_
    refine pr_icmp_ge 27 11 dX9_parts_8 rfl rfl (fun c_8 => ?_) (fun c_8 => absurd (nI_le (Nat.le_refl _) (by omega)) (c_8))
    exact hk
  | succ j ih =>
    intro k hj
    refine pr_iload 7 dX9_parts_5 rfl rfl ?_
    refine pr_iload_n 8 dX9_parts_7 rfl rfl rfl ?_
    refine pr_icmp_ge 27 11 dX9_parts_8 rfl rfl (fun c_8 => absurd (c_8) (nI_ge (by omega) (by omega))) (fun c_8 => ?_)
    refine pr_lload_n 12 dX9_parts_11 rfl rfl rfl ?_
    refine pr_aload_n 13 dX9_parts_12 rfl rfl rfl ?_
    refine pr_getR0 16 dX9_parts_13 fX9_100 rfl ?_
    refine pr_iload 18 dX9_parts_16 rfl rfl ?_
    refine pr_laload k 19 dX9_parts_18 rfl rfl rfl (by omega) rfl ?_
    rw [hm k (by omega)]
    refine pr_ladd 20 dX9_parts_19 rfl ?_
    rw [lN_add]
    refine pr_lstore_n 21 dX9_parts_20 rfl (pm_st2_3 rfl) rfl ?_
    refine pr_iinc 24 dX9_parts_21 rfl (by first | exact pm_inc _ | rfl) (pm_st_5 rfl rfl) rfl ?_
    refine pr_goto 5 dX9_parts_24 rfl ?_
    exact ih (k + 1) (by omega)
theorem lcz {s : Nat} (hs : s < 2 ^ 63) : lg_cmp (lN s) 0 = 0 ↔ s = 0 := by
  rw [lg_cmp_eq]
  exact lN_eqI (b := 0) hs (by omega)
set_option maxRecDepth 100000 in
theorem lp_X9_parts2z (h17 : c ≤ 17) (hS : sm m c = 0) (hn : n < 2147483648)
    (hk : ∀ mem, pm_fr sMP mem0 mem → (∀ k, k < c → mem.1 20017382 0 k = 0) → PR cX9_parts RX9 8 0 0 120 [some (pR 10009909 0), some (pI (nI n)), some (pI (nI c)), some (pJ (lN (sm m c))), none, some (pI (nI n)), some (pI (nI c)), none] [] mem X) :
    ∀ j k mem, k + j = c → pm_fr sMP mem0 mem → (∀ i, i < k → mem.1 20017382 0 i = 0) → PR cX9_parts RX9 8 0 0 33 [some (pR 10009909 0), some (pI (nI n)), some (pI (nI c)), some (pJ (lN (sm m c))), none, some (pI (nI n)), some (pI (nI k)), none] [] mem X := by
  have hz : lg_cmp (lN (sm m c)) 0 = 0 := (lcz (by omega)).mpr hS
  intro j
  induction j with
  | zero =>
    intro k mem hj hf hg
    have e : c = k := by omega
    subst e
    refine pr_iload 35 dX9_parts_33 rfl rfl ?_
    refine pr_iload_n 36 dX9_parts_35 rfl rfl rfl ?_
    refine pr_icmp_ge 120 39 dX9_parts_36 rfl rfl (fun c_36 => ?_) (fun c_36 => absurd (nI_le (Nat.le_refl _) (by omega)) (c_36))
    exact hk mem hf hg
  | succ j ih =>
    intro k mem hj hf hg
    refine pr_iload 35 dX9_parts_33 rfl rfl ?_
    refine pr_iload_n 36 dX9_parts_35 rfl rfl rfl ?_
    refine pr_icmp_ge 120 39 dX9_parts_36 rfl rfl (fun c_36 => absurd (c_36) (nI_ge (by omega) (by omega))) (fun c_36 => ?_)
    refine pr_aload_n 40 dX9_parts_39 rfl rfl rfl ?_
    refine pr_getR0 43 dX9_parts_40 fX9_94 rfl ?_
    refine pr_iload 45 dX9_parts_43 rfl rfl ?_
    refine pr_lload_n 46 dX9_parts_45 rfl rfl rfl ?_
    refine pr_lconst (0) 47 dX9_parts_46 (by decide) rfl ?_
    refine pr_lcmp 48 dX9_parts_47 rfl ?_
    refine pr_if_ne 55 51 dX9_parts_48 rfl rfl (fun c_48 => absurd (hz) (c_48)) (fun c_48 => ?_)
    refine pr_iconst (0) 52 dX9_parts_51 (by decide) rfl ?_
    refine pr_goto 68 dX9_parts_52 rfl ?_
    refine pr_iastore k 69 dX9_parts_68 rfl rfl rfl (by omega) rfl ?_
    refine pr_aload_n 70 dX9_parts_69 rfl rfl rfl ?_
    refine pr_getR0 73 dX9_parts_70 fX9_104 rfl ?_
    refine pr_iload 75 dX9_parts_73 rfl rfl ?_
    refine pr_lload_n 76 dX9_parts_75 rfl rfl rfl ?_
    refine pr_lconst (0) 77 dX9_parts_76 (by decide) rfl ?_
    refine pr_lcmp 78 dX9_parts_77 rfl ?_
    refine pr_if_ne 89 81 dX9_parts_78 rfl rfl (fun c_78 => absurd (hz) (c_78)) (fun c_78 => ?_)
    refine pr_iload_n 82 dX9_parts_81 rfl rfl rfl ?_
    refine pr_iload 84 dX9_parts_82 rfl rfl ?_
    refine pr_isub 85 dX9_parts_84 rfl ?_
    refine pr_i2l 86 dX9_parts_85 rfl ?_
    refine pr_goto 101 dX9_parts_86 rfl ?_
    refine pr_lastore k 102 dX9_parts_101 rfl rfl rfl (by omega) rfl ?_
    refine pr_iload 104 dX9_parts_102 rfl rfl ?_
    refine pr_aload_n 105 dX9_parts_104 rfl rfl rfl ?_
    refine pr_getR0 108 dX9_parts_105 fX9_94 rfl ?_
    refine pr_iload 110 dX9_parts_108 rfl rfl ?_
    refine pr_iaload k 111 dX9_parts_110 rfl rfl rfl (by omega) rfl ?_
    rw [pm_gIJ, pm_gI, if_pos ⟨rfl, rfl, rfl⟩, show (0 : Int32) = nI 0 from rfl]
    refine pr_isub 112 dX9_parts_111 rfl ?_
    rw [nI_subN (Nat.zero_le _), Nat.sub_zero]
    refine pr_istore 114 dX9_parts_112 (pm_st_5 rfl rfl) rfl ?_
    refine pr_iinc 117 dX9_parts_114 rfl (by first | exact pm_inc _ | rfl) (pm_st_6 rfl rfl) rfl ?_
    refine pr_goto 33 dX9_parts_117 rfl ?_
    refine ih (k + 1) _ (by omega) ((hf.uI ⟨Or.inl rfl, rfl⟩).uJ ⟨Or.inr rfl, rfl⟩) (fun i hi => ?_)
    rw [pm_gIJ, pm_gI]
    by_cases e : i = k
    · simp [e, nI_0]
    · simp [e]; exact hg i (by omega)
set_option maxRecDepth 100000 in
theorem lp_X9_parts2 (h17 : c ≤ 17) (hm : ∀ k, k < c → mem0.2.1 40017384 0 k = lN (m k)) (hmb : ∀ k, k < c → m k < 2147483648) (hS : 0 < sm m c) (hn : n < 2147483648)
    (hk : ∀ mem, pm_fr sMP mem0 mem → gRowM mem c (g0 n (sm m c) m) → PR cX9_parts RX9 8 0 0 120 [some (pR 10009909 0), some (pI (nI n)), some (pI (nI c)), some (pJ (lN (sm m c))), none, some (pI (nI (lf n c m))), some (pI (nI c)), none] [] mem X) :
    ∀ j k mem, k + j = c → pm_fr sMP mem0 mem → gRowM mem k (g0 n (sm m c) m) → PR cX9_parts RX9 8 0 0 33 [some (pR 10009909 0), some (pI (nI n)), some (pI (nI c)), some (pJ (lN (sm m c))), none, some (pI (nI (n - sm (fun k => n * m k / sm m c) k))), some (pI (nI k)), none] [] mem X := by
  have hsum := (pa_sum (n := n) hS).1
  have hSb := sm_b36 h17 hmb
  have hz : ¬ lg_cmp (lN (sm m c)) 0 = 0 := fun z => by
    have := (lcz (by omega)).mp z
    omega
  have hne : ¬ lN (sm m c) = 0 := fun z => by
    have := (lN_eqI (a := sm m c) (b := 0) (by omega) (by omega)).mp z
    omega
  intro j
  induction j with
  | zero =>
    intro k mem hj hf hg
    have e : c = k := by omega
    subst e
    refine pr_iload 35 dX9_parts_33 rfl rfl ?_
    refine pr_iload_n 36 dX9_parts_35 rfl rfl rfl ?_
    refine pr_icmp_ge 120 39 dX9_parts_36 rfl rfl (fun c_36 => ?_) (fun c_36 => absurd (nI_le (Nat.le_refl _) (by omega)) (c_36))
    exact hk mem hf hg
  | succ j ih =>
    intro k mem hj hf hg
    have hkc : k < c := by omega
    have hp : n * m k < 2 ^ 63 := by
      have h1 := hmb k hkc
      calc n * m k ≤ 2147483648 * 2147483648 := Nat.mul_le_mul (by omega) (by omega)
        _ < 2 ^ 63 := by decide
    have hle : sm (fun k => n * m k / sm m c) (k + 1) ≤ n := Nat.le_trans (sm_mono (by omega)) hsum
    refine pr_iload 35 dX9_parts_33 rfl rfl ?_
    refine pr_iload_n 36 dX9_parts_35 rfl rfl rfl ?_
    refine pr_icmp_ge 120 39 dX9_parts_36 rfl rfl (fun c_36 => absurd (c_36) (nI_ge (by omega) (by omega))) (fun c_36 => ?_)
    refine pr_aload_n 40 dX9_parts_39 rfl rfl rfl ?_
    refine pr_getR0 43 dX9_parts_40 fX9_94 rfl ?_
    refine pr_iload 45 dX9_parts_43 rfl rfl ?_
    refine pr_lload_n 46 dX9_parts_45 rfl rfl rfl ?_
    refine pr_lconst (0) 47 dX9_parts_46 (by decide) rfl ?_
    refine pr_lcmp 48 dX9_parts_47 rfl ?_
    refine pr_if_ne 55 51 dX9_parts_48 rfl rfl (fun c_48 => ?_) (fun c_48 => absurd (c_48) (hz))
    refine pr_iload_n 56 dX9_parts_55 rfl rfl rfl ?_
    refine pr_i2l 57 dX9_parts_56 rfl ?_
    rw [nI_l hn]
    refine pr_aload_n 58 dX9_parts_57 rfl rfl rfl ?_
    refine pr_getR0 61 dX9_parts_58 fX9_100 rfl ?_
    refine pr_iload 63 dX9_parts_61 rfl rfl ?_
    refine pr_laload k 64 dX9_parts_63 rfl rfl rfl (by omega) rfl ?_
    rw [fr_meaM hm hf hkc]
    refine pr_lmul 65 dX9_parts_64 rfl ?_
    rw [lN_mul]
    refine pr_lload_n 66 dX9_parts_65 rfl rfl rfl ?_
    refine pr_ldiv (hne) 67 dX9_parts_66 rfl ?_
    rw [lN_div hp (by omega)]
    refine pr_l2i 68 dX9_parts_67 rfl ?_
    rw [lN_i]
    refine pr_iastore k 69 dX9_parts_68 rfl rfl rfl (by omega) rfl ?_
    refine pr_aload_n 70 dX9_parts_69 rfl rfl rfl ?_
    refine pr_getR0 73 dX9_parts_70 fX9_104 rfl ?_
    refine pr_iload 75 dX9_parts_73 rfl rfl ?_
    refine pr_lload_n 76 dX9_parts_75 rfl rfl rfl ?_
    refine pr_lconst (0) 77 dX9_parts_76 (by decide) rfl ?_
    refine pr_lcmp 78 dX9_parts_77 rfl ?_
    refine pr_if_ne 89 81 dX9_parts_78 rfl rfl (fun c_78 => ?_) (fun c_78 => absurd (c_78) (hz))
    refine pr_iload_n 90 dX9_parts_89 rfl rfl rfl ?_
    refine pr_i2l 91 dX9_parts_90 rfl ?_
    rw [nI_l hn]
    refine pr_aload_n 92 dX9_parts_91 rfl rfl rfl ?_
    refine pr_getR0 95 dX9_parts_92 fX9_100 rfl ?_
    refine pr_iload 97 dX9_parts_95 rfl rfl ?_
    refine pr_laload k 98 dX9_parts_97 rfl rfl rfl (by omega) rfl ?_
    rw [pm_gJI, fr_meaM hm hf hkc]
    refine pr_lmul 99 dX9_parts_98 rfl ?_
    rw [lN_mul]
    refine pr_lload_n 100 dX9_parts_99 rfl rfl rfl ?_
    refine pr_lrem (hne) 101 dX9_parts_100 rfl ?_
    rw [lN_rem hp (by omega)]
    refine pr_lastore k 102 dX9_parts_101 rfl rfl rfl (by omega) rfl ?_
    refine pr_iload 104 dX9_parts_102 rfl rfl ?_
    refine pr_aload_n 105 dX9_parts_104 rfl rfl rfl ?_
    refine pr_getR0 108 dX9_parts_105 fX9_94 rfl ?_
    refine pr_iload 110 dX9_parts_108 rfl rfl ?_
    refine pr_iaload k 111 dX9_parts_110 rfl rfl rfl (by omega) rfl ?_
    rw [pm_gIJ, pm_gI, if_pos ⟨rfl, rfl, rfl⟩]
    refine pr_isub 112 dX9_parts_111 rfl ?_
    rw [nI_subN (by rw [sm] at hle; omega), Nat.sub_sub]
    refine pr_istore 114 dX9_parts_112 (pm_st_5 rfl rfl) rfl ?_
    refine pr_iinc 117 dX9_parts_114 rfl (by first | exact pm_inc _ | rfl) (pm_st_6 rfl rfl) rfl ?_
    refine pr_goto 33 dX9_parts_117 rfl ?_
    refine ih (k + 1) _ (by omega) ((hf.uI ⟨Or.inl rfl, rfl⟩).uJ ⟨Or.inr rfl, rfl⟩) (fun i hi => ?_)
    rw [pm_gJ, pm_gIJ, pm_gI, pm_gJI]
    by_cases e : i = k
    · subst e
      simp only [and_self, if_true, g0]
      exact ⟨trivial, (lI_nat _).symm⟩
    · obtain ⟨a1, a2⟩ := hg i (by omega)
      simp [e, a1, a2]
set_option maxRecDepth 100000 in
theorem lp_X9_parts4 {mem : pm_M} {s : gT} {a1 a3 a4 a5 : Option pm_v} (h17 : c ≤ 17) (hg : gRowM mem c s) (hb : gBnd s) (hk : PR cX9_parts RX9 8 0 0 179 [some (pR 10009909 0), a1, some (pI (nI c)), a3, a4, a5, some (pI (nI (am s.2 (c - 1)))), some (pI (nI c))] [] mem X) (hn6 : pm_nl a5 = true) :
    ∀ j k, k + 1 + j = c → PR cX9_parts RX9 8 0 0 145 [some (pR 10009909 0), a1, some (pI (nI c)), a3, a4, a5, some (pI (nI (am s.2 k))), some (pI (nI (k + 1)))] [] mem X := by
  intro j
  induction j with
  | zero =>
    intro k hj
    have e : c = k + 1 := by omega
    subst e
    refine pr_iload 147 dX9_parts_145 rfl rfl ?_
    refine pr_iload_n 148 dX9_parts_147 rfl rfl rfl ?_
    refine pr_icmp_ge 179 151 dX9_parts_148 rfl rfl (fun c_148 => ?_) (fun c_148 => absurd (nI_le (Nat.le_refl _) (by omega)) (c_148))
    exact hk
  | succ j ih =>
    intro k hj
    have hm := am_le s.2 k
    refine pr_iload 147 dX9_parts_145 rfl rfl ?_
    refine pr_iload_n 148 dX9_parts_147 rfl rfl rfl ?_
    refine pr_icmp_ge 179 151 dX9_parts_148 rfl rfl (fun c_148 => absurd (c_148) (nI_ge (by omega) (by omega))) (fun c_148 => ?_)
    refine pr_aload_n 152 dX9_parts_151 rfl rfl rfl ?_
    refine pr_getR0 155 dX9_parts_152 fX9_104 rfl ?_
    refine pr_iload 157 dX9_parts_155 rfl rfl ?_
    refine pr_laload (k + 1) 158 dX9_parts_157 rfl rfl rfl (by omega) rfl ?_
    rw [(hg (k + 1) (by omega)).2]
    refine pr_aload_n 159 dX9_parts_158 rfl rfl rfl ?_
    refine pr_getR0 162 dX9_parts_159 fX9_104 rfl ?_
    refine pr_iload 164 dX9_parts_162 rfl rfl ?_
    refine pr_laload (am s.2 k) 165 dX9_parts_164 rfl rfl rfl (by omega) rfl ?_
    rw [(hg (am s.2 k) (by omega)).2]
    refine pr_lcmp 166 dX9_parts_165 rfl ?_
    have h1 := hb (k + 1); have h2 := hb (am s.2 k)
    refine pr_if_le 173 169 dX9_parts_166 rfl rfl (fun c_166 => ?_) (fun c_166 => ?_)
    · refine pr_iinc 176 dX9_parts_173 rfl (by first | exact pm_inc _ | rfl) (pm_st_7 rfl rfl) rfl ?_
      refine pr_goto 145 dX9_parts_176 rfl ?_
      refine cast ?_ (ih (k + 1) (by omega))
      rw [lg_cmp_le] at c_166
      rw [show am s.2 (k + 1) = if s.2 (am s.2 k) < s.2 (k + 1) then k + 1 else am s.2 k from rfl]
      have h3 := lI_ltI (a := s.2 (am s.2 k)) (b := s.2 (k + 1)) (by omega) (by omega) (by omega) (by omega)
      rw [Int64.lt_iff_toInt_lt] at h3
      rw [Int64.le_iff_toInt_le] at c_166
      first | rw [if_pos (by omega)] | rw [if_neg (by omega)]
    · refine pr_iload 171 dX9_parts_169 rfl rfl ?_
      refine pr_istore 173 dX9_parts_171 (pm_st_6 rfl hn6) rfl ?_
      refine pr_iinc 176 dX9_parts_173 rfl (by first | exact pm_inc _ | rfl) (pm_st_7 rfl rfl) rfl ?_
      refine pr_goto 145 dX9_parts_176 rfl ?_
      refine cast ?_ (ih (k + 1) (by omega))
      rw [lg_cmp_le] at c_166
      rw [show am s.2 (k + 1) = if s.2 (am s.2 k) < s.2 (k + 1) then k + 1 else am s.2 k from rfl]
      have h3 := lI_ltI (a := s.2 (am s.2 k)) (b := s.2 (k + 1)) (by omega) (by omega) (by omega) (by omega)
      rw [Int64.lt_iff_toInt_lt] at h3
      rw [Int64.le_iff_toInt_le] at c_166
      first | rw [if_pos (by omega)] | rw [if_neg (by omega)]
set_option maxRecDepth 100000 in
theorem lp_X9_parts3 (h17 : c ≤ 17) (hmb : ∀ k, k < c → m k < 2147483648) (hS : 0 < sm m c) {a1 a3 a4 : Option pm_v} {Qr : Option pm_v → pm_M → Prop} (hn4 : pm_nl a4 = true)
    (hk : ∀ mem, pm_fr sMP mem0 mem → gRowM mem c (gv c (lf n c m) (g0 n (sm m c) m)) → Qr none mem) :
    ∀ j k mem a6 a7, k + j = lf n c m → pm_fr sMP mem0 mem → gRowM mem c (gv c k (g0 n (sm m c) m)) → PR cX9_parts RX9 8 0 0 134 [some (pR 10009909 0), a1, some (pI (nI c)), a3, a4, some (pI (nI j)), a6, a7] [] mem (pm_RX cX9_parts none Qr) := by
  have hl := pa_left (n := n) hS
  have hSb := sm_b36 h17 hmb
  intro j
  induction j with
  | zero =>
    intro k mem a6 a7 hj hf hg
    have e : lf n c m = k := by omega
    refine pr_iload 136 dX9_parts_134 rfl rfl ?_
    refine pr_if_le 206 139 dX9_parts_136 rfl rfl (fun c_136 => ?_) (fun c_136 => absurd (Int32.le_refl _) (c_136))
    refine pr_return dX9_parts_206 rfl ?_
    exact hk mem hf (by rw [e]; exact hg)
  | succ j ih =>
    intro k mem a6 a7 hj hf hg
    have hb : gBnd (gv c k (g0 n (sm m c) m)) := fun i => by
      have := (gv_inv (n := n) hS k (by omega)).1 i
      omega
    have hm := am_le (gv c k (g0 n (sm m c) m)).2 (c - 1)
    refine pr_iload 136 dX9_parts_134 rfl rfl ?_
    refine pr_if_le 206 139 dX9_parts_136 rfl rfl (fun c_136 => absurd (c_136) (nI_nle (by omega) (by omega))) (fun c_136 => ?_)
    refine pr_iconst (0) 140 dX9_parts_139 (by decide) rfl ?_
    refine pr_istore 142 dX9_parts_140 (pm_st_6 rfl rfl) rfl ?_
    refine pr_iconst (1) 143 dX9_parts_142 (by decide) rfl ?_
    refine pr_istore 145 dX9_parts_143 (pm_st_7 rfl rfl) rfl ?_
    refine lp_X9_parts4 h17 hg hb ?_ rfl (c - 1) 0 (by omega)
    refine pr_aload_n 180 dX9_parts_179 rfl rfl rfl ?_
    refine pr_getR0 183 dX9_parts_180 fX9_94 rfl ?_
    refine pr_iload 185 dX9_parts_183 rfl rfl ?_
    refine pr_dup2 rfl rfl 186 dX9_parts_185 rfl ?_
    refine pr_iaload (am (gv c k (g0 n (sm m c) m)).2 (c - 1)) 187 dX9_parts_186 rfl rfl rfl (by omega) rfl ?_
    rw [(hg _ (by omega)).1]
    refine pr_iconst (1) 188 dX9_parts_187 (by decide) rfl ?_
    refine pr_iadd 189 dX9_parts_188 rfl ?_
    rw [show (1 : Int32) = nI 1 from rfl, nI_add]
    refine pr_iastore (am (gv c k (g0 n (sm m c) m)).2 (c - 1)) 190 dX9_parts_189 rfl rfl rfl (by omega) rfl ?_
    refine pr_aload_n 191 dX9_parts_190 rfl rfl rfl ?_
    refine pr_getR0 194 dX9_parts_191 fX9_104 rfl ?_
    refine pr_iload 196 dX9_parts_194 rfl rfl ?_
    refine pr_ldc2 _ 199 dX9_parts_196 kX9_190 rfl ?_
    refine pr_lastore (am (gv c k (g0 n (sm m c) m)).2 (c - 1)) 200 dX9_parts_199 rfl rfl rfl (by omega) rfl ?_
    refine pr_iinc 203 dX9_parts_200 rfl (nI_dec j) (pm_st_5 rfl hn4) rfl ?_
    refine pr_goto 134 dX9_parts_203 rfl ?_
    refine ih (k + 1) _ _ _ (by omega) ((hf.uI ⟨Or.inl rfl, rfl⟩).uJ ⟨Or.inr rfl, rfl⟩) (fun i hi => ?_)
    obtain ⟨a1, a2⟩ := hg i hi
    rw [pm_gJ, pm_gIJ, pm_gI, pm_gJI]
    by_cases e : i = am (gv c k (g0 n (sm m c) m)).2 (c - 1)
    · subst e
      simp [gv, g1, lI_m1]
    · simp [gv, g1, e, a1, a2]
set_option maxRecDepth 100000 in
theorem sp_X9_parts (h17 : c ≤ 17) (hm : ∀ k, k < c → mem0.2.1 40017384 0 k = lN (m k)) (hmb : ∀ k, k < c → m k < 2147483648) (hn : n < 2147483648) : Cl yX9_parts cX9_parts 8 none 0 0 [pR 10009909 0, pI (nI n), pI (nI c)] mem0 (fun r mem => r = none ∧ pm_fr sMP mem0 mem ∧ ∀ k, k < c → mem.1 20017382 0 k = nI (pa n c m k)) := by
  refine Cl.of (own := RX9) rfl rfl (Nat.le_of_ble_eq_true rfl) rfl ?_; show PR _ _ _ _ _ _ [some _, some _, some _, none, none, none, none, none] _ _ _
  have hSb := sm_b36 h17 hmb
  refine pr_lconst (0) 1 dX9_parts_0 (by decide) rfl ?_
  refine pr_lstore_n 2 dX9_parts_1 rfl (pm_st2_3 rfl) rfl ?_
  refine pr_iconst (0) 3 dX9_parts_2 (by decide) rfl ?_
  refine pr_istore 5 dX9_parts_3 (pm_st_5 rfl rfl) rfl ?_
  refine lp_X9_parts1 h17 hm ?_ c 0 (by omega)
  refine pr_iload_n 28 dX9_parts_27 rfl rfl rfl ?_
  refine pr_istore 30 dX9_parts_28 (pm_st_5 rfl rfl) rfl ?_
  refine pr_iconst (0) 31 dX9_parts_30 (by decide) rfl ?_
  refine pr_istore 33 dX9_parts_31 (pm_st_6 rfl rfl) rfl ?_
  rcases Nat.eq_zero_or_pos (sm m c) with hS | hS
  · refine lp_X9_parts2z h17 hS hn (fun mem hf hz => ?_) c 0 mem0 (by omega) pm_fr.rf (fun i hi => absurd hi (Nat.not_lt_zero _))
    refine pr_lload_n 121 dX9_parts_120 rfl rfl rfl ?_
    refine pr_lconst (0) 122 dX9_parts_121 (by decide) rfl ?_
    refine pr_lcmp 123 dX9_parts_122 rfl ?_
    refine pr_if_ne 134 126 dX9_parts_123 rfl rfl (fun c_123 => absurd ((lcz (by omega)).mpr hS) (c_123)) (fun c_123 => ?_)
    refine pr_aload_n 127 dX9_parts_126 rfl rfl rfl ?_
    refine pr_getR0 130 dX9_parts_127 fX9_94 rfl ?_
    refine pr_iconst (0) 131 dX9_parts_130 (by decide) rfl ?_
    refine pr_iload_n 132 dX9_parts_131 rfl rfl rfl ?_
    refine pr_iastore 0 133 dX9_parts_132 rfl rfl rfl (by omega) rfl ?_
    refine pr_return dX9_parts_133 rfl ?_
    refine ⟨rfl, hf.uI ⟨Or.inl rfl, rfl⟩, fun k hk => ?_⟩
    rw [pm_gI]
    unfold pa
    rw [if_pos hS]
    by_cases e : k = 0
    · simp [e]
    · simp [e]
      exact hz k hk
  · refine lp_X9_parts2 h17 hm hmb hS hn (fun mem hf hg => ?_) c 0 mem0 (by omega) pm_fr.rf (fun i hi => absurd hi (Nat.not_lt_zero _))
    refine pr_lload_n 121 dX9_parts_120 rfl rfl rfl ?_
    refine pr_lconst (0) 122 dX9_parts_121 (by decide) rfl ?_
    refine pr_lcmp 123 dX9_parts_122 rfl ?_
    refine pr_if_ne 134 126 dX9_parts_123 rfl rfl (fun c_123 => ?_) (fun c_123 => absurd (c_123) (fun z => by have := (lcz (by omega)).mp z; omega))
    refine lp_X9_parts3 h17 hmb hS rfl (fun mem2 hf2 hg2 => ?_) (lf n c m) 0 mem _ _ (by omega) hf hg
    refine ⟨rfl, hf2, fun k hk => ?_⟩
    rw [(hg2 k hk).1]
    unfold pa
    rw [if_neg (by omega)]
end MPT
