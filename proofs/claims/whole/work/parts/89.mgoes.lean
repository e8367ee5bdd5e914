/-! the reference: a leg -/
section MGT
variable {mem mem0 : pm_M} {T p : Nat} {B : Nat → Nat} {K : Nat → Nat}
def sRd : Nat → Nat → Prop := fun t i => t = 20869372 ∧ i = 0
theorem sRd_ln (h : pm_fr sRd mem0 mem) : lnG false mem0 mem := ⟨h.mono (fun t i z => ⟨Or.inr z.1, z.2⟩), fun k _ _ _ _ _ => by rw [(h _ _ (by simp [sRd])).1]⟩
theorem sRd_mtk (h : pm_fr sRd mem0 mem) (hm : mtk mem0 B T p) : mtk mem B T p := by
  unfold mtk
  rw [(h _ _ (by simp [sRd])).1, (h _ _ (by simp [sRd])).2.1]
  exact hm
theorem legK_lo {t on x k : Nat} (hk : k < 101) : legK K t on x k = K k := by
  unfold legK
  rw [if_neg (by omega), if_neg (by omega), if_neg (by omega), if_neg (by omega), if_neg (by omega)]
/-- the row up to load l -/
def legL (K2 : Nat → Nat) (on y l : Nat) : Nat → Nat := fun k => if 853 ≤ k ∧ k < 853 + l ∧ on.testBit (k - 853) = true then K2 k + y else K2 k
theorem legL_s {K2 : Nat → Nat} {on y l : Nat} : legL K2 on y (l + 1) = if on.testBit l = true then up (legL K2 on y l) (853 + l) (K2 (853 + l) + y) else legL K2 on y l := by
  funext k
  by_cases z : k = 853 + l
  · subst z
    by_cases b : on.testBit l = true
    · rw [if_pos b, up, if_pos rfl, legL, if_pos ⟨by omega, by omega, by rw [show 853 + l - 853 = l by omega]; exact b⟩]
    · rw [if_neg b, legL, if_neg (fun y => b (by have := y.2.2; rwa [show 853 + l - 853 = l by omega] at this)), legL, if_neg (by omega)]
  · have e : legL K2 on y (l + 1) k = legL K2 on y l k := by
      unfold legL
      by_cases c : 853 ≤ k ∧ k < 853 + l ∧ on.testBit (k - 853) = true
      · rw [if_pos c, if_pos ⟨c.1, by omega, c.2.2⟩]
      · rw [if_neg c, if_neg (fun y => c ⟨y.1, by omega, y.2.2⟩)]
    rw [e]
    by_cases b : on.testBit l = true
    · rw [if_pos b, up, if_neg z]
    · rw [if_neg b]
theorem legK_eq {t on x : Nat} (ht : t < 16) (hw : K (105 + 6 * t) < 12) (hx : x < 12) :
    legK K t on x = up (if K (105 + 6 * t) = x then legL (if on = 0 then up (up K (102 + 6 * t) (K (102 + 6 * t) + dd K (K (105 + 6 * t)) x)) (103 + 6 * t) (K (103 + 6 * t) + dd K (K (105 + 6 * t)) x) else up K (102 + 6 * t) (K (102 + 6 * t) + dd K (K (105 + 6 * t)) x)) on (dd K (K (105 + 6 * t)) x) 16 else up (legL (if on = 0 then up (up K (102 + 6 * t) (K (102 + 6 * t) + dd K (K (105 + 6 * t)) x)) (103 + 6 * t) (K (103 + 6 * t) + dd K (K (105 + 6 * t)) x) else up K (102 + 6 * t) (K (102 + 6 * t) + dd K (K (105 + 6 * t)) x)) on (dd K (K (105 + 6 * t)) x) 16) (709 + 12 * K (105 + 6 * t) + x) (K (709 + 12 * K (105 + 6 * t) + x) + 1)) (105 + 6 * t) x := by
  funext k
  generalize hy : dd K (K (105 + 6 * t)) x = y
  unfold legK
  rw [hy]
  by_cases c1 : k = 105 + 6 * t
  · rw [if_pos c1, up, if_pos c1]
  rw [if_neg c1, up, if_neg c1]
  have eL : ∀ K2 : Nat → Nat, (if K (105 + 6 * t) = x then legL K2 on y 16 else up (legL K2 on y 16) (709 + 12 * K (105 + 6 * t) + x) (K (709 + 12 * K (105 + 6 * t) + x) + 1)) k = if k = 709 + 12 * K (105 + 6 * t) + x ∧ ¬ K (105 + 6 * t) = x then K k + 1 else legL K2 on y 16 k := by
    intro K2
    by_cases a : K (105 + 6 * t) = x
    · rw [if_pos a, if_neg (fun z => z.2 a)]
    · rw [if_neg a, up]
      by_cases b : k = 709 + 12 * K (105 + 6 * t) + x
      · rw [if_pos b, if_pos ⟨b, a⟩, b]
      · rw [if_neg b, if_neg (fun z => b z.1)]
  rw [eL]
  have eK2 : ∀ j, (if on = 0 then up (up K (102 + 6 * t) (K (102 + 6 * t) + y)) (103 + 6 * t) (K (103 + 6 * t) + y) else up K (102 + 6 * t) (K (102 + 6 * t) + y)) j = if j = 102 + 6 * t then K j + y else if j = 103 + 6 * t ∧ on = 0 then K j + y else K j := by
    intro j
    by_cases a : on = 0
    · rw [if_pos a]
      unfold up
      by_cases b : j = 103 + 6 * t
      · rw [if_pos b, if_neg (by omega), if_pos ⟨b, a⟩, b]
      · rw [if_neg b]
        by_cases c : j = 102 + 6 * t
        · rw [if_pos c, if_pos c, c]
        · rw [if_neg c, if_neg c, if_neg (fun z => b z.1)]
    · rw [if_neg a]
      unfold up
      by_cases c : j = 102 + 6 * t
      · rw [if_pos c, if_pos c, c]
      · rw [if_neg c, if_neg c, if_neg (fun z => a z.2)]
  unfold legL
  rw [eK2]
  by_cases c2 : k = 102 + 6 * t
  · rw [if_pos c2, if_neg (by omega), if_neg (by omega), if_pos c2]
  rw [if_neg c2, if_neg c2]
  by_cases c3 : k = 103 + 6 * t ∧ on = 0
  · rw [if_pos c3, if_neg (by omega), if_neg (by omega), if_pos c3]
  rw [if_neg c3, if_neg c3]
  by_cases c4 : 853 ≤ k ∧ k < 869 ∧ on.testBit (k - 853) = true
  · rw [if_pos c4, if_neg (by omega), if_pos ⟨c4.1, by omega, c4.2.2⟩]
  · rw [if_neg c4]
    by_cases c5 : k = 709 + 12 * K (105 + 6 * t) + x ∧ ¬ K (105 + 6 * t) = x
    · rw [if_pos c5, if_pos c5]
    · rw [if_neg c5, if_neg c5, if_neg (fun z => c4 ⟨z.1, by omega, z.2.2⟩)]
set_option maxRecDepth 100000 in
theorem sp_X9_goesTo (hr : rowR 20869372 mem0 K) {t x on : Nat} (ht : t < 16) (hw : K (105 + 6 * t) < 12) (hx : x < 12) (hon : on < 65536) (hP : ∀ q, q < 12 → K (41 + q) ≤ 99 ∧ K (53 + q) ≤ 99) : Cl yX9_goesTo cX9_goesTo 7 none 1 24 [pR 10009909 0, pI (nI (101 + 6 * t)), pI (nI x), pI (nI on)] mem0 (fun r mem => r = none ∧ pm_fr sRd mem0 mem ∧ rowR 20869372 mem (legK K t on x)) := by
  have cd0 : ∀ k v, ¬ (4 ≤ k ∧ k < 20) → nI v = cdI k v := fun k v hk => by rw [cdI, if_neg hk]
  rw [legK_eq ht hw hx]
  generalize hy : dd K (K (105 + 6 * t)) x = y
  -- the end: ways, then where it is
  have fin : ∀ mem K3 (a : Option pm_v), pm_fr sRd mem0 mem → rowR 20869372 mem K3 → K3 (709 + 12 * K (105 + 6 * t) + x) = K (709 + 12 * K (105 + 6 * t) + x) → PR cX9_goesTo RX9 7 1 24 93 [some (pR 10009909 0), some (pI (nI (101 + 6 * t))), some (pI (nI x)), some (pI (nI on)), some (pI (nI (K (105 + 6 * t)))), some (pI (nI y)), a] [] mem (pm_RX cX9_goesTo none (fun r mem => r = none ∧ pm_fr sRd mem0 mem ∧ rowR 20869372 mem (up (if K (105 + 6 * t) = x then K3 else up K3 (709 + 12 * K (105 + 6 * t) + x) (K (709 + 12 * K (105 + 6 * t) + x) + 1)) (105 + 6 * t) x))) := by
    intro mem K3 a hf h3 e3
    by_cases e : K (105 + 6 * t) = x
    · rw [if_pos e]
      refine pr_iload 95 dX9_goesTo_93 rfl rfl ?_
      refine pr_iload_n 96 dX9_goesTo_95 rfl rfl rfl ?_
      refine pr_icmp_eq 119 99 dX9_goesTo_96 rfl rfl (fun c_96 => ?_) (fun c_96 => absurd (congrArg nI e) (c_96))
      refine pr_aload_n 120 dX9_goesTo_119 rfl rfl rfl ?_
      refine pr_getR0 123 dX9_goesTo_120 fX9_67 rfl ?_
      refine pr_iload_n 124 dX9_goesTo_123 rfl rfl rfl ?_
      refine pr_iconst (4) 125 dX9_goesTo_124 (by decide) rfl ?_
      refine pr_iadd 126 dX9_goesTo_125 rfl ?_
      refine pr_iload_n 127 dX9_goesTo_126 rfl rfl rfl ?_
      refine pr_iastore (105 + 6 * t) 128 dX9_goesTo_127 rfl rfl (by rw [show (4 : Int32) = nI 4 from rfl, nI_add]; congr 1; omega) (by omega) rfl ?_
      refine pr_return dX9_goesTo_128 rfl ?_
      exact ⟨rfl, hf.uI ⟨rfl, rfl⟩, h3.w (by omega) (cd0 _ _ (by omega))⟩
    · rw [if_neg e]
      refine pr_iload 95 dX9_goesTo_93 rfl rfl ?_
      refine pr_iload_n 96 dX9_goesTo_95 rfl rfl rfl ?_
      refine pr_icmp_eq 119 99 dX9_goesTo_96 rfl rfl (fun c_96 => absurd (c_96) (fun z => e ((nI_eq (by omega) (by omega)).mp z))) (fun c_96 => ?_)
      refine pr_aload_n 100 dX9_goesTo_99 rfl rfl rfl ?_
      refine pr_getR0 103 dX9_goesTo_100 fX9_67 rfl ?_
      refine pr_sipush (709) 106 dX9_goesTo_103 (by decide) rfl ?_
      refine pr_bipush (12) 108 dX9_goesTo_106 (by decide) rfl ?_
      refine pr_iload 110 dX9_goesTo_108 rfl rfl ?_
      refine pr_imul 111 dX9_goesTo_110 rfl ?_
      refine pr_iadd 112 dX9_goesTo_111 rfl ?_
      refine pr_iload_n 113 dX9_goesTo_112 rfl rfl rfl ?_
      refine pr_iadd 114 dX9_goesTo_113 rfl ?_
      refine pr_dup2 rfl rfl 115 dX9_goesTo_114 rfl ?_
      refine pr_iaload (709 + 12 * K (105 + 6 * t) + x) 116 dX9_goesTo_115 rfl rfl (ix_way _ _) (by omega) rfl ?_
      rw [h3.1 _ (by omega) (by omega), e3]
      refine pr_iconst (1) 117 dX9_goesTo_116 (by decide) rfl ?_
      refine pr_iadd 118 dX9_goesTo_117 rfl ?_
      rw [nI_1]
      refine pr_iastore (709 + 12 * K (105 + 6 * t) + x) 119 dX9_goesTo_118 rfl rfl (ix_way _ _) (by omega) rfl ?_
      refine pr_aload_n 120 dX9_goesTo_119 rfl rfl rfl ?_
      refine pr_getR0 123 dX9_goesTo_120 fX9_67 rfl ?_
      refine pr_iload_n 124 dX9_goesTo_123 rfl rfl rfl ?_
      refine pr_iconst (4) 125 dX9_goesTo_124 (by decide) rfl ?_
      refine pr_iadd 126 dX9_goesTo_125 rfl ?_
      refine pr_iload_n 127 dX9_goesTo_126 rfl rfl rfl ?_
      refine pr_iastore (105 + 6 * t) 128 dX9_goesTo_127 rfl rfl (by rw [show (4 : Int32) = nI 4 from rfl, nI_add]; congr 1; omega) (by omega) rfl ?_
      refine pr_return dX9_goesTo_128 rfl ?_
      exact ⟨rfl, (hf.uI ⟨rfl, rfl⟩).uI ⟨rfl, rfl⟩, (h3.w (by omega) (cd0 _ _ (by omega))).w (by omega) (cd0 _ _ (by omega))⟩
  have lp : ∀ K2 : Nat → Nat, K2 (709 + 12 * K (105 + 6 * t) + x) = K (709 + 12 * K (105 + 6 * t) + x) → ∀ j l mem, l + j = 16 → pm_fr sRd mem0 mem → rowR 20869372 mem (legL K2 on y l) → PR cX9_goesTo RX9 7 1 24 55 [some (pR 10009909 0), some (pI (nI (101 + 6 * t))), some (pI (nI x)), some (pI (nI on)), some (pI (nI (K (105 + 6 * t)))), some (pI (nI y)), some (pI (nI l))] [] mem (pm_RX cX9_goesTo none (fun r mem => r = none ∧ pm_fr sRd mem0 mem ∧ rowR 20869372 mem (up (if K (105 + 6 * t) = x then legL K2 on y 16 else up (legL K2 on y 16) (709 + 12 * K (105 + 6 * t) + x) (K (709 + 12 * K (105 + 6 * t) + x) + 1)) (105 + 6 * t) x))) := by
    intro K2 e2 j
    induction j with
    | zero =>
      intro l mem hj hf h3
      have e : l = 16 := by omega
      subst e
      refine pr_iload 57 dX9_goesTo_55 rfl rfl ?_
      refine pr_bipush (16) 59 dX9_goesTo_57 (by decide) rfl ?_
      refine pr_icmp_ge 93 62 dX9_goesTo_59 rfl rfl (fun c_59 => ?_) (fun c_59 => absurd (by decide) (c_59))
      exact fin mem _ _ hf h3 (by rw [legL, if_neg (by omega)]; exact e2)
    | succ j ih =>
      intro l mem hj hf h3
      have hI := fun mem' => ih (l + 1) mem' (by omega)
      rw [legL_s] at hI
      by_cases b : on.testBit l = true
      · rw [if_pos b] at hI
        refine pr_iload 57 dX9_goesTo_55 rfl rfl ?_
        refine pr_bipush (16) 59 dX9_goesTo_57 (by decide) rfl ?_
        refine pr_icmp_ge 93 62 dX9_goesTo_59 rfl rfl (fun c_59 => absurd (c_59) (nI_ge (b := 16) (by omega) (by omega))) (fun c_59 => ?_)
        refine pr_iload_n 63 dX9_goesTo_62 rfl rfl rfl ?_
        refine pr_iload 65 dX9_goesTo_63 rfl rfl ?_
        refine pr_ivsD2 68 dX9_goesTo_65 sX9_132 mX9_has (sp_X9_has on l (by omega)) ⟨Nat.le_of_ble_eq_true rfl, Nat.le_of_ble_eq_true rfl⟩ (Nat.le_of_ble_eq_true rfl) rfl ?_
        refine pr_if_eq 87 71 dX9_goesTo_68 rfl rfl (fun c_68 => absurd (c_68) (by rw [if_pos b]; decide)) (fun c_68 => ?_)
        refine pr_aload_n 72 dX9_goesTo_71 rfl rfl rfl ?_
        refine pr_getR0 75 dX9_goesTo_72 fX9_67 rfl ?_
        refine pr_sipush (853) 78 dX9_goesTo_75 (by decide) rfl ?_
        refine pr_iload 80 dX9_goesTo_78 rfl rfl ?_
        refine pr_iadd 81 dX9_goesTo_80 rfl ?_
        refine pr_dup2 rfl rfl 82 dX9_goesTo_81 rfl ?_
        refine pr_iaload (853 + l) 83 dX9_goesTo_82 rfl rfl (nI_add 853 l) (by omega) rfl ?_
        rw [h3.1 _ (by omega) (by omega), show legL K2 on y l (853 + l) = K2 (853 + l) by rw [legL, if_neg (by omega)]]
        refine pr_iload 85 dX9_goesTo_83 rfl rfl ?_
        refine pr_iadd 86 dX9_goesTo_85 rfl ?_
        rw [nI_add]
        refine pr_iastore (853 + l) 87 dX9_goesTo_86 rfl rfl (nI_add 853 l) (by omega) rfl ?_
        refine pr_iinc 90 dX9_goesTo_87 rfl (by first | exact pm_inc _ | rfl) (pm_st_6 rfl rfl) rfl ?_
        refine pr_goto 55 dX9_goesTo_90 rfl ?_
        exact hI _ (hf.uI ⟨rfl, rfl⟩) (h3.w (by omega) (cd0 _ _ (by omega)))
      · rw [if_neg b] at hI
        refine pr_iload 57 dX9_goesTo_55 rfl rfl ?_
        refine pr_bipush (16) 59 dX9_goesTo_57 (by decide) rfl ?_
        refine pr_icmp_ge 93 62 dX9_goesTo_59 rfl rfl (fun c_59 => absurd (c_59) (nI_ge (b := 16) (by omega) (by omega))) (fun c_59 => ?_)
        refine pr_iload_n 63 dX9_goesTo_62 rfl rfl rfl ?_
        refine pr_iload 65 dX9_goesTo_63 rfl rfl ?_
        refine pr_ivsD2 68 dX9_goesTo_65 sX9_132 mX9_has (sp_X9_has on l (by omega)) ⟨Nat.le_of_ble_eq_true rfl, Nat.le_of_ble_eq_true rfl⟩ (Nat.le_of_ble_eq_true rfl) rfl ?_
        refine pr_if_eq 87 71 dX9_goesTo_68 rfl rfl (fun c_68 => ?_) (fun c_68 => absurd (by rw [if_neg b]) (c_68))
        refine pr_iinc 90 dX9_goesTo_87 rfl (by first | exact pm_inc _ | rfl) (pm_st_6 rfl rfl) rfl ?_
        refine pr_goto 55 dX9_goesTo_90 rfl ?_
        exact hI _ hf h3
  refine Cl.of (own := RX9) rfl rfl (Nat.le_of_ble_eq_true rfl) rfl ?_; show PR _ _ _ _ _ _ [some _, some _, some _, some _, none, none, none] _ _ _
  have l0 : ∀ K2 : Nat → Nat, legL K2 on y 0 = K2 := fun K2 => by funext k; rw [legL, if_neg (by omega)]
  have hd := sp_direct_read hr (K (105 + 6 * t)) x hw hx (hP _ hw) (hP _ hx)
  rw [hy] at hd
  by_cases z : on = 0
  · rw [if_pos z]
    refine pr_aload_n 1 dX9_goesTo_0 rfl rfl rfl ?_
    refine pr_getR0 4 dX9_goesTo_1 fX9_67 rfl ?_
    refine pr_iload_n 5 dX9_goesTo_4 rfl rfl rfl ?_
    refine pr_iconst (4) 6 dX9_goesTo_5 (by decide) rfl ?_
    refine pr_iadd 7 dX9_goesTo_6 rfl ?_
    refine pr_iaload (105 + 6 * t) 8 dX9_goesTo_7 rfl rfl (by rw [show (4 : Int32) = nI 4 from rfl, nI_add]; congr 1; omega) (by omega) rfl ?_
    rw [hr.1 _ (by omega) (by omega)]
    refine pr_istore 10 dX9_goesTo_8 (pm_st_4 rfl rfl) rfl ?_
    refine pr_aload_n 11 dX9_goesTo_10 rfl rfl rfl ?_
    refine pr_getR0 14 dX9_goesTo_11 fX9_67 rfl ?_
    refine pr_iload 16 dX9_goesTo_14 rfl rfl ?_
    refine pr_iload_n 17 dX9_goesTo_16 rfl rfl rfl ?_
    refine pr_ivsD3 20 dX9_goesTo_17 sX9_128 mX9_directOf (hd) ⟨Nat.le_of_ble_eq_true rfl, Nat.le_of_ble_eq_true rfl⟩ (Nat.le_of_ble_eq_true rfl) rfl ?_
    refine pr_istore 22 dX9_goesTo_20 (pm_st_5 rfl rfl) rfl ?_
    refine pr_aload_n 23 dX9_goesTo_22 rfl rfl rfl ?_
    refine pr_getR0 26 dX9_goesTo_23 fX9_67 rfl ?_
    refine pr_iload_n 27 dX9_goesTo_26 rfl rfl rfl ?_
    refine pr_iconst (1) 28 dX9_goesTo_27 (by decide) rfl ?_
    refine pr_iadd 29 dX9_goesTo_28 rfl ?_
    refine pr_dup2 rfl rfl 30 dX9_goesTo_29 rfl ?_
    refine pr_iaload (102 + 6 * t) 31 dX9_goesTo_30 rfl rfl (by rw [nI_1]; congr 1; omega) (by omega) rfl ?_
    rw [hr.1 _ (by omega) (by omega)]
    refine pr_iload 33 dX9_goesTo_31 rfl rfl ?_
    refine pr_iadd 34 dX9_goesTo_33 rfl ?_
    rw [nI_add]
    refine pr_iastore (102 + 6 * t) 35 dX9_goesTo_34 rfl rfl (by rw [nI_1]; congr 1; omega) (by omega) rfl ?_
    refine pr_iload_n 36 dX9_goesTo_35 rfl rfl rfl ?_
    refine pr_if_ne 52 39 dX9_goesTo_36 rfl rfl (fun c_36 => absurd (by rw [z]; rfl) (c_36)) (fun c_36 => ?_)
    refine pr_aload_n 40 dX9_goesTo_39 rfl rfl rfl ?_
    refine pr_getR0 43 dX9_goesTo_40 fX9_67 rfl ?_
    refine pr_iload_n 44 dX9_goesTo_43 rfl rfl rfl ?_
    refine pr_iconst (2) 45 dX9_goesTo_44 (by decide) rfl ?_
    refine pr_iadd 46 dX9_goesTo_45 rfl ?_
    refine pr_dup2 rfl rfl 47 dX9_goesTo_46 rfl ?_
    refine pr_iaload (103 + 6 * t) 48 dX9_goesTo_47 rfl rfl (by rw [show (2 : Int32) = nI 2 from rfl, nI_add]; congr 1; omega) (by omega) rfl ?_
    rw [pm_gIn (by omega), hr.1 _ (by omega) (by omega)]
    refine pr_iload 50 dX9_goesTo_48 rfl rfl ?_
    refine pr_iadd 51 dX9_goesTo_50 rfl ?_
    rw [nI_add]
    refine pr_iastore (103 + 6 * t) 52 dX9_goesTo_51 rfl rfl (by rw [show (2 : Int32) = nI 2 from rfl, nI_add]; congr 1; omega) (by omega) rfl ?_
    refine pr_iconst (0) 53 dX9_goesTo_52 (by decide) rfl ?_
    refine pr_istore 55 dX9_goesTo_53 (pm_st_6 rfl rfl) rfl ?_
    exact lp _ (by rw [up, if_neg (by omega), up, if_neg (by omega)]) 16 0 _ (by omega) ((pm_fr.rf.uI ⟨rfl, rfl⟩).uI ⟨rfl, rfl⟩) (by rw [l0]; exact (hr.w (by omega) (cd0 _ _ (by omega))).w (by omega) (cd0 _ _ (by omega)))
  · rw [if_neg z]
    refine pr_aload_n 1 dX9_goesTo_0 rfl rfl rfl ?_
    refine pr_getR0 4 dX9_goesTo_1 fX9_67 rfl ?_
    refine pr_iload_n 5 dX9_goesTo_4 rfl rfl rfl ?_
    refine pr_iconst (4) 6 dX9_goesTo_5 (by decide) rfl ?_
    refine pr_iadd 7 dX9_goesTo_6 rfl ?_
    refine pr_iaload (105 + 6 * t) 8 dX9_goesTo_7 rfl rfl (by rw [show (4 : Int32) = nI 4 from rfl, nI_add]; congr 1; omega) (by omega) rfl ?_
    rw [hr.1 _ (by omega) (by omega)]
    refine pr_istore 10 dX9_goesTo_8 (pm_st_4 rfl rfl) rfl ?_
    refine pr_aload_n 11 dX9_goesTo_10 rfl rfl rfl ?_
    refine pr_getR0 14 dX9_goesTo_11 fX9_67 rfl ?_
    refine pr_iload 16 dX9_goesTo_14 rfl rfl ?_
    refine pr_iload_n 17 dX9_goesTo_16 rfl rfl rfl ?_
    refine pr_ivsD3 20 dX9_goesTo_17 sX9_128 mX9_directOf (hd) ⟨Nat.le_of_ble_eq_true rfl, Nat.le_of_ble_eq_true rfl⟩ (Nat.le_of_ble_eq_true rfl) rfl ?_
    refine pr_istore 22 dX9_goesTo_20 (pm_st_5 rfl rfl) rfl ?_
    refine pr_aload_n 23 dX9_goesTo_22 rfl rfl rfl ?_
    refine pr_getR0 26 dX9_goesTo_23 fX9_67 rfl ?_
    refine pr_iload_n 27 dX9_goesTo_26 rfl rfl rfl ?_
    refine pr_iconst (1) 28 dX9_goesTo_27 (by decide) rfl ?_
    refine pr_iadd 29 dX9_goesTo_28 rfl ?_
    refine pr_dup2 rfl rfl 30 dX9_goesTo_29 rfl ?_
    refine pr_iaload (102 + 6 * t) 31 dX9_goesTo_30 rfl rfl (by rw [nI_1]; congr 1; omega) (by omega) rfl ?_
    rw [hr.1 _ (by omega) (by omega)]
    refine pr_iload 33 dX9_goesTo_31 rfl rfl ?_
    refine pr_iadd 34 dX9_goesTo_33 rfl ?_
    rw [nI_add]
    refine pr_iastore (102 + 6 * t) 35 dX9_goesTo_34 rfl rfl (by rw [nI_1]; congr 1; omega) (by omega) rfl ?_
    refine pr_iload_n 36 dX9_goesTo_35 rfl rfl rfl ?_
    refine pr_if_ne 52 39 dX9_goesTo_36 rfl rfl (fun c_36 => ?_) (fun c_36 => absurd (c_36) (nI_ne0 (by omega) (by omega)))
    refine pr_iconst (0) 53 dX9_goesTo_52 (by decide) rfl ?_
    refine pr_istore 55 dX9_goesTo_53 (pm_st_6 rfl rfl) rfl ?_
    exact lp _ (by rw [up, if_neg (by omega)]) 16 0 _ (by omega) (pm_fr.rf.uI ⟨rfl, rfl⟩) (by rw [l0]; exact hr.w (by omega) (cd0 _ _ (by omega)))
end MGT
