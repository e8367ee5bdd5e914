/-! Ledger.closeTruck -/
def sCl (L : Nat) : Nat → Nat → Prop := fun t i => (t = 10002902 ∨ t = 20016087 ∨ t = 10003903 ∨ t = 20016120 ∨ t = 20016121 ∨ t = 40016122) ∧ i = L
/-- the ledger's own fields, but open -/
def ldF (L : Nat) (m0 m : pm_M) : Prop := (∀ k, k ≠ 13 → m.1 10002902 L k = m0.1 10002902 L k) ∧ m.2.2 10002902 L = m0.2.2 10002902 L
theorem sel_kpt {K : Nat → Nat} {k : Nat} (h : kpt K k = true) : ∃ t, t < K 40 ∧ sel K k t = true := by
  have hm : 0 < mis K k := by
    unfold kpt at h
    simp at h
    exact h.1
  have : ∃ t, t < K 40 ∧ (K (101 + 6 * t) = k ∧ K (4 + t) = 0) := by
    apply Decidable.byContradiction
    intro hn
    have : mis K k = 0 := sm_zero (fun t ht => if_neg (fun z => hn ⟨t, ht, z⟩))
    omega
  obtain ⟨t, ht, h1, h2⟩ := this
  exact ⟨t, ht, by simp [sel, h1, h2]⟩
theorem hasT_iff {K : Nat → Nat} {k : Nat} : rk (sel K k) (K 40) = 0 ↔ hasT K k = false := by
  have e : hasT K k = false ↔ ∀ t, t < K 40 → ¬ K (101 + 6 * t) = k := by
    unfold hasT
    rw [decide_eq_false_iff_not]
    constructor
    · intro h t ht hh
      have := sm_one (f := fun t => if K (101 + 6 * t) = k then 1 else 0) ht
      simp only [hh, if_true] at this
      omega
    · intro h
      rw [sm_zero (fun t ht => if_neg (h t ht))]
      omega
  rw [e]
  constructor
  · intro h t ht hh
    by_cases hs : sel K k t = true
    · have := rk_lt (p := sel K k) ht hs
      omega
    · have hkp : kpt K k = true := by
        simp [sel, hh] at hs
        exact hs.1
      obtain ⟨u, hu, hs⟩ := sel_kpt hkp
      have := rk_lt (p := sel K k) hu hs
      omega
  · intro h
    exact sm_zero (fun t ht => if_neg (fun hs => by
      simp [sel] at hs
      exact h t ht hs.1))
section CLT
variable {mem0 : pm_M} {L d M k : Nat} {K w lk : Nat → Nat} {X : Nat → List (Option pm_v) → List pm_v → pm_M → Prop}
theorem ledR.cl {mem : pm_M} (h : ledR mem0 L d w lk M) (hf : pm_fr (sCl L) mem0 mem) (hl : ldF L mem0 mem) : ledR mem L d w lk M := by
  obtain ⟨h1, h2, h3, h4⟩ := h
  unfold ledR
  rw [hl.2, hl.1 _ (by decide), (hf 20016084 L (by simp [sCl])).1, (hf 20016085 L (by simp [sCl])).1]
  exact ⟨h1, h2, h3, h4⟩
/-- behind the first loop, up to trip t -/
def cl1 (mem0 mem : pm_M) (L k : Nat) (K : Nat → Nat) (t : Nat) : Prop :=
  pm_fr (sCl L) mem0 mem ∧ mem.1 10002902 L = mem0.1 10002902 L ∧ mem.2.2 10002902 L = mem0.2.2 10002902 L ∧ mem.1 10003903 L 3 = nI (rk (sel K k) t) ∧ (∀ j, j < rk (sel K k) t → mem.1 20016121 L j = nI (est K (en (sel K k) (K 40) j))) ∧
  (∀ u, u < t → K (101 + 6 * u) = k → ¬ sel K k u = true → mem.1 20016087 L u = nI (K (4 + u) - 1)) ∧ ∀ u, u < K 40 → ¬ K (101 + 6 * u) = k → mem.1 20016087 L u = mem0.1 20016087 L u
set_option maxRecDepth 100000 in
theorem lp_X2_closeTruck1 (hd : deskR mem0 d K) (hW : WF K) (hL : ledR mem0 L d w lk M) (he : estR mem0 L K) (hk : k < 4) {a2 a3 a6 : Option pm_v}
    (hc : ∀ mem, cl1 mem0 mem L k K (K 40) → PR cX2_closeTruck RX2 7 2 49 127 [some (pR 10002902 L), some (pI (nI k)), a2, a3, some (pI (if kpt K k = true then 1 else 0)), some (pI (nI (K 40))), a6] [] mem X) :
    ∀ j t mem, t + j = K 40 → cl1 mem0 mem L k K t → PR cX2_closeTruck RX2 7 2 49 49 [some (pR 10002902 L), some (pI (nI k)), a2, a3, some (pI (if kpt K k = true then 1 else 0)), some (pI (nI t)), a6] [] mem X := by
  have h16 := hW.2.2.2.2.1
  intro j
  induction j with
  | zero =>
    intro t mem hj hi
    have e : t = K 40 := by omega
    subst e
    have hl1 := (hL.cl hi.1 ⟨fun _ _ => by rw [hi.2.1], hi.2.2.1⟩).1
    have hd1 := hd.fr hi.1 (by simp [sCl])
    refine pr_iload 51 dX2_closeTruck_49 rfl rfl ?_
    refine pr_aload_n 52 dX2_closeTruck_51 rfl rfl rfl ?_
    refine pr_getP d 55 dX2_closeTruck_52 fX2_62 hl1 rfl ?_
    refine pr_getI 58 dX2_closeTruck_55 fX2_73 rfl ?_
    rw [hd1.2.2.2.2.1]
    refine pr_icmp_ge 127 61 dX2_closeTruck_58 rfl rfl (fun c_58 => ?_) (fun c_58 => absurd (Int32.le_refl _) (c_58))
    exact hc mem hi
  | succ j ih =>
    intro t mem hj hi
    have hL1 := hL.cl hi.1 ⟨fun _ _ => by rw [hi.2.1], hi.2.2.1⟩
    have hl1 := hL1.1
    have hd1 := hd.fr hi.1 (by simp [sCl])
    obtain ⟨b1, b2, b3⟩ := hd1.2.2.2.2.2.2.2.2 t (by omega)
    obtain ⟨a1, a2', -⟩ := hW.2.2.2.2.2.2.2.2.1 t (by omega)
    have h4 := hW.2.2.1
    have he1 : mem.1 20016086 L t = nI (est K t) := by rw [(hi.1 20016086 L (by simp [sCl])).1]; exact he t (by omega)
    have hrk := rk_le (sel K k) t
    obtain ⟨i1, i2, i3, i4, i5, i6, i7⟩ := hi
    refine pr_iload 51 dX2_closeTruck_49 rfl rfl ?_
    refine pr_aload_n 52 dX2_closeTruck_51 rfl rfl rfl ?_
    refine pr_getP d 55 dX2_closeTruck_52 fX2_62 hl1 rfl ?_
    refine pr_getI 58 dX2_closeTruck_55 fX2_73 rfl ?_
    rw [hd1.2.2.2.2.1]
    refine pr_icmp_ge 127 61 dX2_closeTruck_58 rfl rfl (fun c_58 => absurd (c_58) (nI_ge (by omega) (by omega))) (fun c_58 => ?_)
    refine pr_aload_n 62 dX2_closeTruck_61 rfl rfl rfl ?_
    refine pr_iload 64 dX2_closeTruck_62 rfl rfl ?_
    refine pr_iload_n 65 dX2_closeTruck_64 rfl rfl rfl ?_
    refine pr_iload 67 dX2_closeTruck_65 rfl rfl ?_
    refine pr_invD3 70 dX2_closeTruck_67 vX2_138 mX2_isParted (sp_X2_isParted hd1 hW hL1 (t := t) (by omega) hk) ⟨Nat.le_of_ble_eq_true rfl, Nat.le_of_ble_eq_true rfl⟩ (Nat.le_of_ble_eq_true rfl) rfl ?_
    refine pr_if_eq 90 73 dX2_closeTruck_70 rfl rfl (fun c_70 => ?_) (fun c_70 => ?_)
    · have hs : ¬ sel K k t = true := fun z => by
        rw [if_pos z] at c_70
        exact absurd c_70 (by decide)
      refine pr_aload_n 91 dX2_closeTruck_90 rfl rfl rfl ?_
      refine pr_getP d 94 dX2_closeTruck_91 fX2_62 hl1 rfl ?_
      refine pr_getR0 97 dX2_closeTruck_94 fX2_105 rfl ?_
      refine pr_iload 99 dX2_closeTruck_97 rfl rfl ?_
      refine pr_iaload t 100 dX2_closeTruck_99 rfl rfl rfl (by omega) rfl ?_
      rw [b1]
      refine pr_iload_n 101 dX2_closeTruck_100 rfl rfl rfl ?_
      refine pr_icmp_ne 121 104 dX2_closeTruck_101 rfl rfl (fun c_101 => ?_) (fun c_101 => ?_)
      · rw [nI_eq (by omega) (by omega)] at c_101
        refine pr_iinc 124 dX2_closeTruck_121 rfl (by first | exact pm_inc _ | rfl) (pm_st_5 rfl rfl) rfl ?_
        refine pr_goto 49 dX2_closeTruck_124 rfl ?_
        refine ih (t + 1) mem (by omega) ⟨i1, i2, i3, ?_, ?_, ?_, i7⟩
        · rw [i4]; simp [rk, sm, hs]
        · rw [show rk (sel K k) (t + 1) = rk (sel K k) t by simp [rk, sm, hs]]; exact i5
        · intro u hu h1 h2
          rcases Nat.lt_or_ge u t with z | z
          · exact i6 u z h1 h2
          · have : u = t := by omega
            subst this; exact absurd h1 c_101
      · rw [nI_eq (by omega) (by omega)] at c_101
        have hfz : ¬ K (4 + t) = 0 := fun z => hs (by simp [sel, c_101, z])
        refine pr_aload_n 105 dX2_closeTruck_104 rfl rfl rfl ?_
        refine pr_getR0 108 dX2_closeTruck_105 fX2_28 rfl ?_
        refine pr_iload 110 dX2_closeTruck_108 rfl rfl ?_
        refine pr_aload_n 111 dX2_closeTruck_110 rfl rfl rfl ?_
        refine pr_getP d 114 dX2_closeTruck_111 fX2_62 hl1 rfl ?_
        refine pr_getR0 117 dX2_closeTruck_114 fX2_99 rfl ?_
        refine pr_iload 119 dX2_closeTruck_117 rfl rfl ?_
        refine pr_iaload t 120 dX2_closeTruck_119 rfl rfl rfl (by omega) rfl ?_
        rw [b2]
        rw [fuV hfz]
        refine pr_iastore t 121 dX2_closeTruck_120 rfl rfl rfl (by omega) rfl ?_
        refine pr_iinc 124 dX2_closeTruck_121 rfl (by first | exact pm_inc _ | rfl) (pm_st_5 rfl rfl) rfl ?_
        refine pr_goto 49 dX2_closeTruck_124 rfl ?_
        refine ih (t + 1) _ (by omega) ⟨i1.uI ⟨Or.inr (Or.inl rfl), rfl⟩, ?_, i3, ?_, ?_, ?_, ?_⟩
        · rw [← i2]; funext u; rw [pm_gI, if_neg (by simp)]
        · rw [pm_gI, if_neg (by simp), i4]; simp [rk, sm, hs]
        · rw [show rk (sel K k) (t + 1) = rk (sel K k) t by simp [rk, sm, hs]]
          intro j hj
          rw [pm_gI, if_neg (by simp)]; exact i5 j hj
        · intro u hu h1 h2
          rcases Nat.lt_or_ge u t with z | z
          · rw [pm_gI, if_neg (by omega)]; exact i6 u z h1 h2
          · have : u = t := by omega
            subst this
            rw [pm_gI, if_pos ⟨rfl, rfl, rfl⟩]
        · intro u hu h1
          rw [pm_gI, if_neg (fun z => h1 (by rw [z.2.2]; exact c_101))]; exact i7 u hu h1
    · have hs : sel K k t = true := Decidable.byContradiction (fun z => c_70 (by rw [if_neg z]))
      refine pr_aload_n 74 dX2_closeTruck_73 rfl rfl rfl ?_
      refine pr_getR0 77 dX2_closeTruck_74 fX2_12 rfl ?_
      refine pr_aload_n 78 dX2_closeTruck_77 rfl rfl rfl ?_
      refine pr_getR0 81 dX2_closeTruck_78 fX2_25 rfl ?_
      refine pr_iload 83 dX2_closeTruck_81 rfl rfl ?_
      refine pr_iaload t 84 dX2_closeTruck_83 rfl rfl rfl (by omega) rfl ?_
      rw [he1]
      refine pr_inv01 87 dX2_closeTruck_84 vX2_142 mX3_add (sp_X3_add i4 (by omega)) ⟨Nat.le_of_ble_eq_true rfl, Nat.le_of_ble_eq_true rfl⟩ (Nat.le_of_ble_eq_true rfl) rfl ?_
      refine pr_goto 121 dX2_closeTruck_87 rfl ?_
      refine pr_iinc 124 dX2_closeTruck_121 rfl (by first | exact pm_inc _ | rfl) (pm_st_5 rfl rfl) rfl ?_
      refine pr_goto 49 dX2_closeTruck_124 rfl ?_
      refine ih (t + 1) _ (by omega) ⟨(i1.uI (t := 20016121) (i := L) ⟨by simp, rfl⟩).uI ⟨by simp, rfl⟩, ?_, i3, ?_, ?_, ?_, ?_⟩
      · rw [← i2]; funext u; rw [pm_gI, if_neg (by simp), pm_gI, if_neg (by simp)]
      · rw [pm_gI, if_pos ⟨rfl, rfl, rfl⟩]; simp [rk, sm, hs]
      · intro j hj
        rw [pm_gI, if_neg (by simp), pm_gI]
        have e : rk (sel K k) (t + 1) = rk (sel K k) t + 1 := by simp [rk, sm, hs]
        by_cases z : j = rk (sel K k) t
        · rw [if_pos ⟨rfl, rfl, z⟩, z, en_rk (by omega) hs]
        · rw [if_neg (fun y => z y.2.2)]; exact i5 j (by omega)
      · intro u hu h1 h2
        rw [pm_gI, if_neg (by simp), pm_gI, if_neg (by simp)]
        rcases Nat.lt_or_ge u t with z | z
        · exact i6 u z h1 h2
        · have : u = t := by omega
          subst this; exact absurd hs h2
      · intro u hu h1
        rw [pm_gI, if_neg (by simp), pm_gI, if_neg (by simp)]; exact i7 u hu h1
/-- behind the third loop, up to trip t -/
def cl3 (mem0 mem : pm_M) (L k : Nat) (K : Nat → Nat) (t : Nat) : Prop :=
  pm_fr (sCl L) mem0 mem ∧ mem.1 10002902 L = mem0.1 10002902 L ∧ mem.2.2 10002902 L = mem0.2.2 10002902 L ∧ mem.1 10003903 L 3 = nI (rk (sel K k) (K 40)) ∧ (∀ j, j < rk (sel K k) (K 40) → mem.1 20016120 L j = nI (pa (bgt K k) (rk (sel K k) (K 40)) (fun j => est K (en (sel K k) (K 40) j)) j)) ∧
  (∀ u, u < K 40 → K (101 + 6 * u) = k → (u < t ∨ ¬ sel K k u = true) → mem.1 20016087 L u = nI (cld K u)) ∧ ∀ u, u < K 40 → ¬ K (101 + 6 * u) = k → mem.1 20016087 L u = mem0.1 20016087 L u
set_option maxRecDepth 100000 in
theorem lp_X2_closeTruck3 (hd : deskR mem0 d K) (hW : WF K) (hL : ledR mem0 L d w lk M) (hk : k < 4) {a2 a3 : Option pm_v} {Qr : Option pm_v → pm_M → Prop}
    (hc : ∀ mem, cl3 mem0 mem L k K (K 40) → Qr none mem) :
    ∀ j t mem, t + j = K 40 → cl3 mem0 mem L k K t → PR cX2_closeTruck RX2 7 2 49 173 [some (pR 10002902 L), some (pI (nI k)), a2, a3, some (pI (if kpt K k = true then 1 else 0)), some (pI (nI (rk (sel K k) t))), some (pI (nI t))] [] mem (pm_RX cX2_closeTruck none Qr) := by
  have h16 := hW.2.2.2.2.1
  intro j
  induction j with
  | zero =>
    intro t mem hj hi
    have e : t = K 40 := by omega
    subst e
    have hl1 := (hL.cl hi.1 ⟨fun _ _ => by rw [hi.2.1], hi.2.2.1⟩).1
    have hd1 := hd.fr hi.1 (by simp [sCl])
    refine pr_iload 175 dX2_closeTruck_173 rfl rfl ?_
    refine pr_aload_n 176 dX2_closeTruck_175 rfl rfl rfl ?_
    refine pr_getP d 179 dX2_closeTruck_176 fX2_62 hl1 rfl ?_
    refine pr_getI 182 dX2_closeTruck_179 fX2_73 rfl ?_
    rw [hd1.2.2.2.2.1]
    refine pr_icmp_ge 235 185 dX2_closeTruck_182 rfl rfl (fun c_182 => ?_) (fun c_182 => absurd (Int32.le_refl _) (c_182))
    refine pr_return dX2_closeTruck_235 rfl ?_
    exact hc mem hi
  | succ j ih =>
    intro t mem hj hi
    have hL1 := hL.cl hi.1 ⟨fun _ _ => by rw [hi.2.1], hi.2.2.1⟩
    have hl1 := hL1.1
    have hd1 := hd.fr hi.1 (by simp [sCl])
    have hrk := rk_le (sel K k) t
    have hrk2 := rk_le (sel K k) (K 40)
    obtain ⟨i1, i2, i3, i4, i5, i6, i7⟩ := hi
    refine pr_iload 175 dX2_closeTruck_173 rfl rfl ?_
    refine pr_aload_n 176 dX2_closeTruck_175 rfl rfl rfl ?_
    refine pr_getP d 179 dX2_closeTruck_176 fX2_62 hl1 rfl ?_
    refine pr_getI 182 dX2_closeTruck_179 fX2_73 rfl ?_
    rw [hd1.2.2.2.2.1]
    refine pr_icmp_ge 235 185 dX2_closeTruck_182 rfl rfl (fun c_182 => absurd (c_182) (nI_ge (by omega) (by omega))) (fun c_182 => ?_)
    refine pr_iload 187 dX2_closeTruck_185 rfl rfl ?_
    refine pr_aload_n 188 dX2_closeTruck_187 rfl rfl rfl ?_
    refine pr_getR0 191 dX2_closeTruck_188 fX2_12 rfl ?_
    refine pr_getI 194 dX2_closeTruck_191 fX2_145 rfl ?_
    rw [i4]
    refine pr_icmp_ge 235 197 dX2_closeTruck_194 rfl rfl (fun c_194 => ?_) (fun c_194 => ?_)
    · rw [nI_leI (by omega) (by omega)] at c_194
      refine pr_return dX2_closeTruck_235 rfl ?_
      refine hc mem ⟨i1, i2, i3, i4, i5, fun u hu h1 h2 => i6 u hu h1 ?_, i7⟩
      rcases h2 with z | z
      · rcases Nat.lt_or_ge u t with y | y
        · exact Or.inl y
        · refine Or.inr (fun hs => ?_)
          have h5 := rk_lt (p := sel K k) hu hs
          have h6 : rk (sel K k) t ≤ rk (sel K k) u := sm_mono y
          omega
      · exact Or.inr z
    · rw [nI_leI (by omega) (by omega)] at c_194
      refine pr_aload_n 198 dX2_closeTruck_197 rfl rfl rfl ?_
      refine pr_iload 200 dX2_closeTruck_198 rfl rfl ?_
      refine pr_iload_n 201 dX2_closeTruck_200 rfl rfl rfl ?_
      refine pr_iload 203 dX2_closeTruck_201 rfl rfl ?_
      refine pr_invD3 206 dX2_closeTruck_203 vX2_138 mX2_isParted (sp_X2_isParted hd1 hW hL1 (t := t) (by omega) hk) ⟨Nat.le_of_ble_eq_true rfl, Nat.le_of_ble_eq_true rfl⟩ (Nat.le_of_ble_eq_true rfl) rfl ?_
      refine pr_if_eq 229 209 dX2_closeTruck_206 rfl rfl (fun c_206 => ?_) (fun c_206 => ?_)
      · have hs : ¬ sel K k t = true := fun z => by
          rw [if_pos z] at c_206
          exact absurd c_206 (by decide)
        refine pr_iinc 232 dX2_closeTruck_229 rfl (by first | exact pm_inc _ | rfl) (pm_st_6 rfl rfl) rfl ?_
        refine pr_goto 173 dX2_closeTruck_232 rfl ?_
        refine cast ?_ (ih (t + 1) mem (by omega) ⟨i1, i2, i3, i4, i5, fun u hu h1 h2 => i6 u hu h1 ?_, i7⟩)
        · rw [show rk (sel K k) (t + 1) = rk (sel K k) t by simp [rk, sm, hs]]
        · rcases h2 with z | z
          · rcases Nat.lt_or_ge u t with y | y
            · exact Or.inl y
            · have : u = t := by omega
              subst this; exact Or.inr hs
          · exact Or.inr z
      · have hs : sel K k t = true := Decidable.byContradiction (fun z => c_206 (by rw [if_neg z]))
        refine pr_aload_n 210 dX2_closeTruck_209 rfl rfl rfl ?_
        refine pr_getR0 213 dX2_closeTruck_210 fX2_28 rfl ?_
        refine pr_iload 215 dX2_closeTruck_213 rfl rfl ?_
        refine pr_aload_n 216 dX2_closeTruck_215 rfl rfl rfl ?_
        refine pr_getR0 219 dX2_closeTruck_216 fX2_12 rfl ?_
        refine pr_getR0 222 dX2_closeTruck_219 fX2_151 rfl ?_
        refine pr_iload 224 dX2_closeTruck_222 rfl rfl ?_
        refine pr_iaload (rk (sel K k) t) 225 dX2_closeTruck_224 rfl rfl rfl (by omega) rfl ?_
        rw [i5 _ (rk_lt (by omega) hs)]
        refine pr_iastore t 226 dX2_closeTruck_225 rfl rfl rfl (by omega) rfl ?_
        refine pr_iinc 229 dX2_closeTruck_226 rfl (by first | exact pm_inc _ | rfl) (pm_st_5 rfl rfl) rfl ?_
        refine pr_iinc 232 dX2_closeTruck_229 rfl (by first | exact pm_inc _ | rfl) (pm_st_6 rfl rfl) rfl ?_
        refine pr_goto 173 dX2_closeTruck_232 rfl ?_
        have hof : K (101 + 6 * t) = k := by
          simp [sel] at hs
          exact hs.1
        rw [show rk (sel K k) t + 1 = rk (sel K k) (t + 1) by simp [rk, sm, hs]]
        refine ih (t + 1) _ (by omega) ⟨i1.uI ⟨Or.inr (Or.inl rfl), rfl⟩, ?_, i3, ?_, ?_, ?_, ?_⟩
        · rw [← i2]; funext u; rw [pm_gI, if_neg (by simp)]
        · rw [pm_gI, if_neg (by simp)]; exact i4
        · intro j hj
          rw [pm_gI, if_neg (by simp)]; exact i5 j hj
        · intro u hu h1 h2
          by_cases z : u = t
          · subst z
            rw [pm_gI, if_pos ⟨rfl, rfl, rfl⟩]
            unfold cld
            rw [hof, if_pos hs]
          · rw [pm_gI, if_neg (fun y => z y.2.2)]
            refine i6 u hu h1 ?_
            rcases h2 with y | y
            · exact Or.inl (by omega)
            · exact Or.inr y
        · intro u hu h1
          rw [pm_gI, if_neg (fun z => h1 (by rw [z.2.2]; exact hof))]; exact i7 u hu h1
set_option maxRecDepth 100000 in
theorem sp_X2_closeTruck (hd : deskR mem0 d K) (hW : WF K) (hL : ledR mem0 L d w lk M) (he : estR mem0 L K) (hk : k < K 38) {o : Nat} (ho : mem0.1 10002902 L 13 = nI o) (hob : o < 1000000) : Cl yX2_closeTruck cX2_closeTruck 7 none 2 49 [pR 10002902 L, pI (nI k)] mem0 (fun r mem => r = none ∧ pm_fr (sCl L) mem0 mem ∧ ldF L mem0 mem ∧ mem.1 10002902 L 13 = nI (o + if hasT K k = true then 0 else K k) ∧ ∀ u, u < K 40 → mem.1 20016087 L u = if K (101 + 6 * u) = k then nI (cld K u) else mem0.1 20016087 L u) := by
  have h16 := hW.2.2.2.2.1
  have h4 := hW.2.2.1
  have hbk := (hW.2.2.2.2.2.1 k (by omega)).1
  have hl1 := hL.1
  have htl : tld K k ≤ 16 * 9999 := by
    have := sm_bnd (f := fun t => if K (101 + 6 * t) = k ∧ ¬ K (4 + t) = 0 then K (4 + t) - 1 else 0) (n := K 40) (b := 9999) (fun t ht => by
      have := (hW.2.2.2.2.2.2.2.2.1 t ht).1
      have h2 : K (4 + t) - 1 ≤ 9999 := by omega
      show (if _ then _ else _) ≤ _
      split
      · exact h2
      · exact Nat.zero_le _)
    exact Nat.le_trans this (Nat.mul_le_mul_right _ h16)
  have hms : mis K k ≤ 16 * 400000 := by
    have := sm_bnd (f := fun t => if K (101 + 6 * t) = k ∧ K (4 + t) = 0 then est K t else 0) (n := K 40) (b := 400000) (fun t ht => by
      have := est_le hW ht
      show (if _ then _ else _) ≤ _
      split
      · exact this
      · exact Nat.zero_le _)
    exact Nat.le_trans this (Nat.mul_le_mul_right _ h16)
  have main : PR cX2_closeTruck RX2 7 2 49 37 [some (pR 10002902 L), some (pI (nI k)), some (pI (nI (K k))), some (pI (nI (tld K k))), none, none, none] [pI (if kpt K k = true then 1 else 0)] mem0 (pm_RX cX2_closeTruck none (fun r mem => r = none ∧ pm_fr (sCl L) mem0 mem ∧ ldF L mem0 mem ∧ mem.1 10002902 L 13 = nI (o + if hasT K k = true then 0 else K k) ∧ ∀ u, u < K 40 → mem.1 20016087 L u = if K (101 + 6 * u) = k then nI (cld K u) else mem0.1 20016087 L u)) := by
    refine pr_istore 39 dX2_closeTruck_37 (pm_st_4 rfl rfl) rfl ?_
    refine pr_aload_n 40 dX2_closeTruck_39 rfl rfl rfl ?_
    refine pr_getR0 43 dX2_closeTruck_40 fX2_12 rfl ?_
    refine pr_inv00 46 dX2_closeTruck_43 vX2_135 mX3_begin (sp_X3_begin L) ⟨Nat.le_of_ble_eq_true rfl, Nat.le_of_ble_eq_true rfl⟩ (Nat.le_of_ble_eq_true rfl) rfl ?_
    refine pr_iconst (0) 47 dX2_closeTruck_46 (by decide) rfl ?_
    refine pr_istore 49 dX2_closeTruck_47 (pm_st_5 rfl rfl) rfl ?_
    refine lp_X2_closeTruck1 hd hW hL he (by omega) (fun mem hi => ?_) (K 40) 0 _ (by omega) ⟨pm_fr.rf.uI ⟨by simp, rfl⟩, ?_, rfl, ?_, fun j hj => absurd hj (Nat.not_lt_zero _), fun u hu => absurd hu (Nat.not_lt_zero _), fun u hu h1 => ?_⟩
    · obtain ⟨i1, i2, i3, i4, i5, i6, i7⟩ := hi
      have hrk := rk_le (sel K k) (K 40)
      have hL1 := hL.cl i1 ⟨fun _ _ => by rw [i2], i3⟩
      have c0 : nI (rk (sel K k) (K 40)) = 0 ↔ rk (sel K k) (K 40) = 0 := by
        rw [show (0 : Int32) = nI 0 from rfl, nI_eq (by omega) (by omega)]
      have dv : ∀ mem, cl1 mem0 mem L k K (K 40) → ¬ rk (sel K k) (K 40) = 0 → PR cX2_closeTruck RX2 7 2 49 164 [some (pR 10002902 L), some (pI (nI k)), some (pI (nI (K k))), some (pI (nI (tld K k))), some (pI (if kpt K k = true then 1 else 0)), some (pI (nI (K 40))), none] [pI (nI (bgt K k)), pR 10003903 L] mem (pm_RX cX2_closeTruck none (fun r mem => r = none ∧ pm_fr (sCl L) mem0 mem ∧ ldF L mem0 mem ∧ mem.1 10002902 L 13 = nI (o + if hasT K k = true then 0 else K k) ∧ ∀ u, u < K 40 → mem.1 20016087 L u = if K (101 + 6 * u) = k then nI (cld K u) else mem0.1 20016087 L u)) := by
        intro mem hi hne
        obtain ⟨i1, i2, i3, i4, i5, i6, i7⟩ := hi
        have hbg : bgt K k ≤ 9999 := by unfold bgt; split <;> omega
        refine pr_inv0R1 167 dX2_closeTruck_164 vX2_148 mX3_divide (sp_X3_divide (m := fun j => est K (en (sel K k) (K 40) j)) i4 (by omega) i5 (fun j hj => by have := est_le hW (en_ok hj).1; omega) (by omega)) ⟨Nat.le_of_ble_eq_true rfl, Nat.le_of_ble_eq_true rfl⟩ (Nat.le_of_ble_eq_true rfl) rfl (fun mem1 h1 => ?_)
        refine pr_iconst (0) 168 dX2_closeTruck_167 (by decide) rfl ?_
        refine pr_istore 170 dX2_closeTruck_168 (pm_st_5 rfl rfl) rfl ?_
        refine pr_iconst (0) 171 dX2_closeTruck_170 (by decide) rfl ?_
        refine pr_istore 173 dX2_closeTruck_171 (pm_st_6 rfl rfl) rfl ?_
        obtain ⟨j1, j2⟩ := h1
        have jf : pm_fr (sCl L) mem mem1 := j1.mono (fun t i h => ⟨by rcases h.1 with z | z <;> simp [z], h.2⟩)
        have jL := j1 10002902 L (by simp [sPar])
        refine lp_X2_closeTruck3 hd hW hL (by omega) (fun mem2 hi2 => ?_) (K 40) 0 mem1 (by omega) ⟨i1.tr jf, by rw [jL.1]; exact i2, by rw [jL.2.2]; exact i3, ?_, j2, ?_, ?_⟩
        · obtain ⟨q1, q2, q3, q4, q5, q6, q7⟩ := hi2
          refine ⟨rfl, q1, ⟨fun z _ => by rw [q2], q3⟩, ?_, fun u hu => ?_⟩
          · rw [q2, ho]
            have : hasT K k = true := by
              cases hh : hasT K k with
              | true => rfl
              | false => exact absurd (hasT_iff.mpr hh) hne
            rw [if_pos this, Nat.add_zero]
          · by_cases z : K (101 + 6 * u) = k
            · rw [if_pos z]; exact q6 u hu z (Or.inl hu)
            · rw [if_neg z]; exact q7 u hu z
        · rw [(j1 10003903 L (by simp [sPar])).1]; exact i4
        · intro u hu h1 h2
          rcases h2 with z | z
          · exact absurd z (Nat.not_lt_zero _)
          · rw [(j1 20016087 L (by simp [sPar])).1, i6 u hu h1 z]
            unfold cld
            rw [h1, if_neg z]
        · intro u hu h1
          rw [(j1 20016087 L (by simp [sPar])).1]; exact i7 u hu h1
      refine pr_aload_n 128 dX2_closeTruck_127 rfl rfl rfl ?_
      refine pr_getR0 131 dX2_closeTruck_128 fX2_12 rfl ?_
      refine pr_getI 134 dX2_closeTruck_131 fX2_145 rfl ?_
      rw [i4]
      refine pr_if_ne 148 137 dX2_closeTruck_134 rfl rfl (fun c_134 => ?_) (fun c_134 => ?_)
      · rw [c0] at c_134
        refine pr_aload_n 149 dX2_closeTruck_148 rfl rfl rfl ?_
        refine pr_getR0 152 dX2_closeTruck_149 fX2_12 rfl ?_
        refine pr_iload 154 dX2_closeTruck_152 rfl rfl ?_
        have hkz : (if kpt K k = true then (1 : Int32) else 0) = 0 ↔ ¬ kpt K k = true := by by_cases z : kpt K k = true <;> simp [z]
        refine pr_if_eq 163 157 dX2_closeTruck_154 rfl rfl (fun c_154 => ?_) (fun c_154 => ?_)
        · rw [hkz] at c_154
          refine pr_iload_n 164 dX2_closeTruck_163 rfl rfl rfl ?_
          refine cast ?_ (dv mem ⟨i1, i2, i3, i4, i5, i6, i7⟩ c_134)
          rw [show bgt K k = K k from if_neg c_154]
        · rw [hkz, Decidable.not_not] at c_154
          have hle : tld K k ≤ K k := by
            have := c_154
            simp [kpt] at this
            exact this.2
          refine pr_iload_n 158 dX2_closeTruck_157 rfl rfl rfl ?_
          refine pr_iload_n 159 dX2_closeTruck_158 rfl rfl rfl ?_
          refine pr_isub 160 dX2_closeTruck_159 rfl ?_
          rw [nI_subN hle]
          refine pr_goto 164 dX2_closeTruck_160 rfl ?_
          refine cast ?_ (dv mem ⟨i1, i2, i3, i4, i5, i6, i7⟩ c_134)
          rw [show bgt K k = K k - tld K k from if_pos c_154]
      · rw [c0] at c_134
        refine pr_aload_n 138 dX2_closeTruck_137 rfl rfl rfl ?_
        refine pr_dup rfl 139 dX2_closeTruck_138 rfl ?_
        refine pr_getI 142 dX2_closeTruck_139 fX2_70 rfl ?_
        rw [i2, ho]
        refine pr_iload_n 143 dX2_closeTruck_142 rfl rfl rfl ?_
        refine pr_iadd 144 dX2_closeTruck_143 rfl ?_
        rw [nI_add]
        refine pr_putI 147 dX2_closeTruck_144 fX2_70 rfl ?_
        refine pr_return dX2_closeTruck_147 rfl ?_
        have hh := hasT_iff.mp c_134
        refine ⟨rfl, i1.uI ⟨by simp, rfl⟩, ⟨fun z hz => ?_, i3⟩, ?_, fun u hu => ?_⟩
        · rw [pm_gI, if_neg (fun y => hz y.2.2), i2]
        · rw [pm_gI, if_pos ⟨rfl, rfl, rfl⟩, if_neg (by rw [hh]; decide)]
        · have hu2 : ¬ K (101 + 6 * u) = k := fun z => by
            have : hasT K k = true := by
              unfold hasT
              have := sm_one (f := fun t => if K (101 + 6 * t) = k then 1 else 0) hu
              simp only [z, if_true] at this
              exact decide_eq_true (by omega)
            rw [hh] at this
            cases this
          rw [pm_gI, if_neg (by simp), if_neg hu2]
          exact i7 u hu hu2
    · funext u; rw [pm_gI, if_neg (by simp)]
    · rw [pm_gI, if_pos ⟨rfl, rfl, rfl⟩]; rfl
    · rw [pm_gI, if_neg (by simp)]
  refine Cl.of (own := RX2) rfl rfl (Nat.le_of_ble_eq_true rfl) rfl ?_; show PR _ _ _ _ _ _ [some _, some _, none, none, none, none, none] _ _ _
  refine pr_aload_n 1 dX2_closeTruck_0 rfl rfl rfl ?_
  refine pr_getP d 4 dX2_closeTruck_1 fX2_62 hl1 rfl ?_
  refine pr_getR0 7 dX2_closeTruck_4 fX2_126 rfl ?_
  refine pr_iload_n 8 dX2_closeTruck_7 rfl rfl rfl ?_
  refine pr_iaload k 9 dX2_closeTruck_8 rfl rfl rfl (by omega) rfl ?_
  rw [(hd.2.2.2.2.2.2.1 k hk).2]
  refine pr_istore_n 10 dX2_closeTruck_9 rfl (pm_st_2 rfl rfl) rfl ?_
  refine pr_aload_n 11 dX2_closeTruck_10 rfl rfl rfl ?_
  refine pr_getP d 14 dX2_closeTruck_11 fX2_62 hl1 rfl ?_
  refine pr_iload_n 15 dX2_closeTruck_14 rfl rfl rfl ?_
  refine pr_invD1 18 dX2_closeTruck_15 vX2_129 mX0_fuelTold (sp_X0_fuelTold hd hW (by omega)) ⟨Nat.le_of_ble_eq_true rfl, Nat.le_of_ble_eq_true rfl⟩ (Nat.le_of_ble_eq_true rfl) rfl ?_
  refine pr_istore_n 19 dX2_closeTruck_18 rfl (pm_st_3 rfl rfl) rfl ?_
  refine pr_aload_n 20 dX2_closeTruck_19 rfl rfl rfl ?_
  refine pr_iload_n 21 dX2_closeTruck_20 rfl rfl rfl ?_
  refine pr_invD1 24 dX2_closeTruck_21 vX2_132 mX2_sumOfMissing (sp_X2_sumOfMissing hd hW hL he (by omega)) ⟨Nat.le_of_ble_eq_true rfl, Nat.le_of_ble_eq_true rfl⟩ (Nat.le_of_ble_eq_true rfl) rfl ?_
  have cz : nI (mis K k) ≤ 0 ↔ mis K k ≤ 0 := by rw [show (0 : Int32) = nI 0 from rfl, nI_leI (by omega) (by omega)]
  refine pr_if_le 36 27 dX2_closeTruck_24 rfl rfl (fun c_24 => ?_) (fun c_24 => ?_)
  · rw [cz] at c_24
    refine pr_iconst (0) 37 dX2_closeTruck_36 (by decide) rfl ?_
    refine cast ?_ main
    rw [if_neg (by simp [kpt]; omega)]
  · rw [cz] at c_24
    refine pr_iload_n 28 dX2_closeTruck_27 rfl rfl rfl ?_
    refine pr_iload_n 29 dX2_closeTruck_28 rfl rfl rfl ?_
    refine pr_icmp_gt 36 32 dX2_closeTruck_29 rfl rfl (fun c_29 => ?_) (fun c_29 => ?_)
    · rw [nI_ltI (by omega) (by omega)] at c_29
      refine pr_iconst (0) 37 dX2_closeTruck_36 (by decide) rfl ?_
      refine cast ?_ main
      rw [if_neg (by simp [kpt]; omega)]
    · rw [nI_ltI (by omega) (by omega)] at c_29
      refine pr_iconst (1) 33 dX2_closeTruck_32 (by decide) rfl ?_
      refine pr_goto 37 dX2_closeTruck_33 rfl ?_
      refine cast ?_ main
      rw [if_pos (by simp [kpt]; omega)]
end CLT
