/-! the class: a leg is driven -/
section DLG
variable {mem mem0 : pm_M} {d : Nat} {K : Nat → Nat}
def sDL : Nat → Nat → Prop := fun t i => (t ∈ [20016201, 20016202, 20016203, 20016204, 20016209] ∧ i = 0) ∨ t = 20012607 ∨ t = 20016605 ∨ t = 20016606
def lgQ (m0 m : pm_M) (t on y a b L : Nat) (w : Prop) : Prop := pm_fr sDL m0 m ∧ m.2.2 = m0.2.2 ∧
  (∀ u, m.1 20016201 0 u = if u = t then m0.1 20016201 0 u + nI y else m0.1 20016201 0 u) ∧
  (∀ u, m.1 20016202 0 u = if u = t ∧ on = 0 then m0.1 20016202 0 u + nI y else m0.1 20016202 0 u) ∧
  (∀ l, m.1 20016209 0 l = if l < L ∧ on.testBit l = true then m0.1 20016209 0 l + nI y else m0.1 20016209 0 l) ∧
  (∀ p q, (w → m.1 20012607 p q = if p = a ∧ q = b ∧ ¬ a = b then m0.1 20012607 p q + 1 else m0.1 20012607 p q) ∧ (¬ w → m.1 20012607 p q = m0.1 20012607 p q)) ∧
  m.1 20016203 0 = m0.1 20016203 0 ∧ m.1 20016204 0 = m0.1 20016204 0 ∧ m.1 20016605 = m0.1 20016605 ∧ m.1 20016606 = m0.1 20016606
set_option maxRecDepth 100000 in
theorem sp_X5_driveLeg (hd : deskR mem0 d K) (hW : WF K) (hp : mem0.2.2 10005905 0 0 = some d) {t on a b : Nat} (ht : t < 16) (hon : on < 65536) (ha : a < K 37) (hb : b < K 37) : Cl yX5_driveLeg cX5_driveLeg 7 none 2 44 [pR 10005905 0, pI (nI t), pI (nI on), pI (nI a), pI (nI b)] mem0 (fun r m => r = none ∧ lgQ mem0 m t on (dd K a b) a b (K 39) True) := by
  have h12 := hW.2.1
  have h16 := hW.2.2.2.1
  obtain ⟨y, hy⟩ : ∃ y, dd K a b = y := ⟨_, rfl⟩
  have hdist := hd.dist hW ha hb
  rw [hy] at hdist ⊢
  have fin : ∀ mem a6, lgQ mem0 mem t on y a b (K 39) False → PR cX5_driveLeg RX5 7 2 44 80 [some (pR 10005905 0), some (pI (nI t)), some (pI (nI on)), some (pI (nI a)), some (pI (nI b)), some (pI (nI y)), a6] [] mem (pm_RX cX5_driveLeg none (fun r m => r = none ∧ lgQ mem0 m t on y a b (K 39) True)) := by
    intro mem a6 h
    obtain ⟨f, f2, g1, g2, g3, g4, g5⟩ := h
    by_cases e : a = b
    · refine pr_iload_n 81 dX5_driveLeg_80 rfl rfl rfl ?_
      refine pr_iload 83 dX5_driveLeg_81 rfl rfl ?_
      refine pr_icmp_eq 99 86 dX5_driveLeg_83 rfl rfl (fun c_83 => ?_) (fun c_83 => absurd (congrArg nI e) (c_83))
      refine pr_return dX5_driveLeg_99 rfl ?_
      refine ⟨rfl, f, f2, g1, g2, g3, fun p q => ⟨fun _ => ?_, fun z => absurd trivial z⟩, g5⟩
      rw [if_neg (fun z => z.2.2 e)]
      exact (g4 p q).2 (fun z => z)
    · refine pr_iload_n 81 dX5_driveLeg_80 rfl rfl rfl ?_
      refine pr_iload 83 dX5_driveLeg_81 rfl rfl ?_
      refine pr_icmp_eq 99 86 dX5_driveLeg_83 rfl rfl (fun c_83 => absurd (c_83) (fun z => e ((nI_eq (by omega) (by omega)).mp z))) (fun c_83 => ?_)
      refine pr_aload_n 87 dX5_driveLeg_86 rfl rfl rfl ?_
      refine pr_getR0 90 dX5_driveLeg_87 fX5_32 rfl ?_
      refine pr_iload_n 91 dX5_driveLeg_90 rfl rfl rfl ?_
      first | refine pr_aaload0 (n := 12) a 20012607 92 dX5_driveLeg_91 rfl rfl rfl rfl (by omega) rfl ?_ | refine pr_aaload (n := 12) a 20012607 92 dX5_driveLeg_91 rfl rfl rfl rfl (by omega) rfl ?_
      refine pr_iload 94 dX5_driveLeg_92 rfl rfl ?_
      refine pr_dup2 rfl rfl 95 dX5_driveLeg_94 rfl ?_
      refine pr_iaload b 96 dX5_driveLeg_95 rfl rfl rfl (by omega) rfl ?_
      refine pr_iconst (1) 97 dX5_driveLeg_96 (by decide) rfl ?_
      refine pr_iadd 98 dX5_driveLeg_97 rfl ?_
      refine pr_iastore b 99 dX5_driveLeg_98 rfl rfl rfl (by omega) rfl ?_
      refine pr_return dX5_driveLeg_99 rfl ?_
      refine ⟨rfl, f.uI (Or.inr (Or.inl rfl)), f2, fun u => ?_, fun u => ?_, fun u => ?_, fun p q => ⟨fun _ => ?_, fun z => absurd trivial z⟩, ?_, ?_, ?_, ?_⟩
      · rw [pm_gIn (by simp)]; exact g1 u
      · rw [pm_gIn (by simp)]; exact g2 u
      · rw [pm_gIn (by simp)]; exact g3 u
      · by_cases z : p = a ∧ q = b
        · rw [if_pos ⟨z.1, z.2, e⟩, z.1, z.2, pm_gIe, (g4 a b).2 (fun z => z)]
        · rw [if_neg (fun y => z ⟨y.1, y.2.1⟩), pm_gIn (fun y => z ⟨y.2.1, y.2.2⟩)]
          exact (g4 p q).2 (fun z => z)
      · funext z; rw [pm_gIn (by simp)]; rw [g5.1]
      · funext z; rw [pm_gIn (by simp)]; rw [g5.2.1]
      · funext z z'; rw [pm_gIn (by simp)]; rw [g5.2.2.1]
      · funext z z'; rw [pm_gIn (by simp)]; rw [g5.2.2.2]
  have lp : ∀ j l mem, l + j = K 39 → lgQ mem0 mem t on y a b l False → PR cX5_driveLeg RX5 7 2 44 41 [some (pR 10005905 0), some (pI (nI t)), some (pI (nI on)), some (pI (nI a)), some (pI (nI b)), some (pI (nI y)), some (pI (nI l))] [] mem (pm_RX cX5_driveLeg none (fun r m => r = none ∧ lgQ mem0 m t on y a b (K 39) True)) := by
    intro j
    induction j with
    | zero =>
      intro l mem hj h
      have e : l = K 39 := by omega
      subst e
      have hd1 := hd.fr h.1 (by simp [sDL])
      have hp1 : mem.2.2 10005905 0 0 = some d := by rw [h.2.1]; exact hp
      refine pr_iload 43 dX5_driveLeg_41 rfl rfl ?_
      refine pr_aload_n 44 dX5_driveLeg_43 rfl rfl rfl ?_
      refine pr_getP d 47 dX5_driveLeg_44 fX5_56 hp1 rfl ?_
      refine pr_getI 50 dX5_driveLeg_47 fX5_79 rfl ?_
      rw [hd1.2.2.2.1]
      refine pr_icmp_ge 80 53 dX5_driveLeg_50 rfl rfl (fun c_50 => ?_) (fun c_50 => absurd (Int32.le_refl _) (c_50))
      exact fin mem _ h
    | succ j ih =>
      intro l mem hj h
      have hd1 := hd.fr h.1 (by simp [sDL])
      have hp1 : mem.2.2 10005905 0 0 = some d := by rw [h.2.1]; exact hp
      have hbit := nI_shr1 (w := on) (l := l) (by omega)
      obtain ⟨f, f2, g1, g2, g3, g4, g5⟩ := id h
      by_cases bt : on.testBit l = true
      · refine pr_iload 43 dX5_driveLeg_41 rfl rfl ?_
        refine pr_aload_n 44 dX5_driveLeg_43 rfl rfl rfl ?_
        refine pr_getP d 47 dX5_driveLeg_44 fX5_56 hp1 rfl ?_
        refine pr_getI 50 dX5_driveLeg_47 fX5_79 rfl ?_
        rw [hd1.2.2.2.1]
        refine pr_icmp_ge 80 53 dX5_driveLeg_50 rfl rfl (fun c_50 => absurd (c_50) (nI_ge (by omega) (by omega))) (fun c_50 => ?_)
        refine pr_iload_n 54 dX5_driveLeg_53 rfl rfl rfl ?_
        refine pr_iload 56 dX5_driveLeg_54 rfl rfl ?_
        refine pr_ishr 57 dX5_driveLeg_56 rfl ?_
        refine pr_iconst (1) 58 dX5_driveLeg_57 (by decide) rfl ?_
        refine pr_iand 59 dX5_driveLeg_58 rfl ?_
        rw [hbit, if_pos bt]
        refine pr_if_eq 74 62 dX5_driveLeg_59 rfl rfl (fun c_59 => absurd (c_59) (by decide)) (fun c_59 => ?_)
        refine pr_aload_n 63 dX5_driveLeg_62 rfl rfl rfl ?_
        refine pr_getR0 66 dX5_driveLeg_63 fX5_38 rfl ?_
        refine pr_iload 68 dX5_driveLeg_66 rfl rfl ?_
        refine pr_dup2 rfl rfl 69 dX5_driveLeg_68 rfl ?_
        refine pr_iaload l 70 dX5_driveLeg_69 rfl rfl rfl (by omega) rfl ?_
        refine pr_iload 72 dX5_driveLeg_70 rfl rfl ?_
        refine pr_iadd 73 dX5_driveLeg_72 rfl ?_
        refine pr_iastore l 74 dX5_driveLeg_73 rfl rfl rfl (by omega) rfl ?_
        refine pr_iinc 77 dX5_driveLeg_74 rfl (by first | exact pm_inc _ | rfl) (pm_st_6 rfl rfl) rfl ?_
        refine pr_goto 41 dX5_driveLeg_77 rfl ?_
        refine ih (l + 1) _ (by omega) ⟨f.uI (Or.inl ⟨by simp, rfl⟩), f2, fun u => ?_, fun u => ?_, fun u => ?_, fun p q => ⟨fun z => absurd z (fun z => z), fun _ => ?_⟩, ?_, ?_, ?_, ?_⟩
        · rw [pm_gIn (by simp)]; exact g1 u
        · rw [pm_gIn (by simp)]; exact g2 u
        · by_cases z : u = l
          · subst z
            rw [pm_gIe, if_pos ⟨by omega, bt⟩, g3 u, if_neg (by omega)]
          · rw [pm_gIn (fun y => z y.2.2), g3 u]
            by_cases c : u < l ∧ on.testBit u = true
            · rw [if_pos c, if_pos ⟨by omega, c.2⟩]
            · rw [if_neg c, if_neg (fun y => c ⟨by omega, y.2⟩)]
        · rw [pm_gIn (by simp)]; exact (g4 p q).2 (fun z => z)
        · funext z; rw [pm_gIn (by simp)]; rw [g5.1]
        · funext z; rw [pm_gIn (by simp)]; rw [g5.2.1]
        · funext z z'; rw [pm_gIn (by simp)]; rw [g5.2.2.1]
        · funext z z'; rw [pm_gIn (by simp)]; rw [g5.2.2.2]
      · refine pr_iload 43 dX5_driveLeg_41 rfl rfl ?_
        refine pr_aload_n 44 dX5_driveLeg_43 rfl rfl rfl ?_
        refine pr_getP d 47 dX5_driveLeg_44 fX5_56 hp1 rfl ?_
        refine pr_getI 50 dX5_driveLeg_47 fX5_79 rfl ?_
        rw [hd1.2.2.2.1]
        refine pr_icmp_ge 80 53 dX5_driveLeg_50 rfl rfl (fun c_50 => absurd (c_50) (nI_ge (by omega) (by omega))) (fun c_50 => ?_)
        refine pr_iload_n 54 dX5_driveLeg_53 rfl rfl rfl ?_
        refine pr_iload 56 dX5_driveLeg_54 rfl rfl ?_
        refine pr_ishr 57 dX5_driveLeg_56 rfl ?_
        refine pr_iconst (1) 58 dX5_driveLeg_57 (by decide) rfl ?_
        refine pr_iand 59 dX5_driveLeg_58 rfl ?_
        rw [hbit, if_neg bt]
        refine pr_if_eq 74 62 dX5_driveLeg_59 rfl rfl (fun c_59 => ?_) (fun c_59 => absurd (rfl) (c_59))
        refine pr_iinc 77 dX5_driveLeg_74 rfl (by first | exact pm_inc _ | rfl) (pm_st_6 rfl rfl) rfl ?_
        refine pr_goto 41 dX5_driveLeg_77 rfl ?_
        refine ih (l + 1) _ (by omega) ⟨f, f2, g1, g2, fun u => ?_, g4, g5⟩
        rw [g3 u]
        by_cases c : u < l ∧ on.testBit u = true
        · rw [if_pos c, if_pos ⟨by omega, c.2⟩]
        · rw [if_neg c, if_neg (fun y => c ⟨?_, y.2⟩)]
          rcases Nat.lt_or_ge u l with w | w
          · exact w
          · have e : u = l := by omega
            rw [e] at y
            exact absurd y.2 bt
  refine Cl.of (own := RX5) rfl rfl (Nat.le_of_ble_eq_true rfl) rfl ?_; show PR _ _ _ _ _ _ [some _, some _, some _, some _, some _, none, none] _ _ _
  by_cases o : on = 0
  · refine pr_aload_n 1 dX5_driveLeg_0 rfl rfl rfl ?_
    refine pr_getP d 4 dX5_driveLeg_1 fX5_56 hp rfl ?_
    refine pr_iload_n 5 dX5_driveLeg_4 rfl rfl rfl ?_
    refine pr_iload 7 dX5_driveLeg_5 rfl rfl ?_
    refine pr_invD2 10 dX5_driveLeg_7 vX5_108 mX0_distance (hdist) ⟨Nat.le_of_ble_eq_true rfl, Nat.le_of_ble_eq_true rfl⟩ (Nat.le_of_ble_eq_true rfl) rfl ?_
    refine pr_istore 12 dX5_driveLeg_10 (pm_st_5 rfl rfl) rfl ?_
    refine pr_aload_n 13 dX5_driveLeg_12 rfl rfl rfl ?_
    refine pr_getR0 16 dX5_driveLeg_13 fX5_9 rfl ?_
    refine pr_iload_n 17 dX5_driveLeg_16 rfl rfl rfl ?_
    refine pr_dup2 rfl rfl 18 dX5_driveLeg_17 rfl ?_
    refine pr_iaload t 19 dX5_driveLeg_18 rfl rfl rfl (by omega) rfl ?_
    refine pr_iload 21 dX5_driveLeg_19 rfl rfl ?_
    refine pr_iadd 22 dX5_driveLeg_21 rfl ?_
    refine pr_iastore t 23 dX5_driveLeg_22 rfl rfl rfl (by omega) rfl ?_
    refine pr_iload_n 24 dX5_driveLeg_23 rfl rfl rfl ?_
    refine pr_if_ne 38 27 dX5_driveLeg_24 rfl rfl (fun c_24 => absurd (by rw [o]; rfl) (c_24)) (fun c_24 => ?_)
    refine pr_aload_n 28 dX5_driveLeg_27 rfl rfl rfl ?_
    refine pr_getR0 31 dX5_driveLeg_28 fX5_15 rfl ?_
    refine pr_iload_n 32 dX5_driveLeg_31 rfl rfl rfl ?_
    refine pr_dup2 rfl rfl 33 dX5_driveLeg_32 rfl ?_
    refine pr_iaload t 34 dX5_driveLeg_33 rfl rfl rfl (by omega) rfl ?_
    rw [pm_gIn (by simp)]
    refine pr_iload 36 dX5_driveLeg_34 rfl rfl ?_
    refine pr_iadd 37 dX5_driveLeg_36 rfl ?_
    refine pr_iastore t 38 dX5_driveLeg_37 rfl rfl rfl (by omega) rfl ?_
    refine pr_iconst (0) 39 dX5_driveLeg_38 (by decide) rfl ?_
    refine pr_istore 41 dX5_driveLeg_39 (pm_st_6 rfl rfl) rfl ?_
    refine lp (K 39) 0 _ (by omega) ⟨(pm_fr.rf.uI (Or.inl ⟨by simp, rfl⟩)).uI (Or.inl ⟨by simp, rfl⟩), rfl, fun u => ?_, fun u => ?_, fun u => ?_, fun p q => ⟨fun z => absurd z (fun z => z), fun _ => ?_⟩, ?_, ?_, ?_, ?_⟩
    · rw [pm_gIn (by simp)]
      by_cases z : u = t
      · subst z; rw [pm_gIe, if_pos rfl]
      · rw [pm_gIn (fun y => z y.2.2), if_neg z]
    · by_cases z : u = t
      · subst z; rw [pm_gIe, if_pos ⟨rfl, o⟩]
      · rw [pm_gIn (fun y => z y.2.2), pm_gIn (by simp), if_neg (fun y => z y.1)]
    · rw [pm_gIn (by simp), pm_gIn (by simp), if_neg (by omega)]
    · rw [pm_gIn (by simp), pm_gIn (by simp)]
    · funext z; rw [pm_gIn (by simp), pm_gIn (by simp)]
    · funext z; rw [pm_gIn (by simp), pm_gIn (by simp)]
    · funext z z'; rw [pm_gIn (by simp), pm_gIn (by simp)]
    · funext z z'; rw [pm_gIn (by simp), pm_gIn (by simp)]
  · refine pr_aload_n 1 dX5_driveLeg_0 rfl rfl rfl ?_
    refine pr_getP d 4 dX5_driveLeg_1 fX5_56 hp rfl ?_
    refine pr_iload_n 5 dX5_driveLeg_4 rfl rfl rfl ?_
    refine pr_iload 7 dX5_driveLeg_5 rfl rfl ?_
    refine pr_invD2 10 dX5_driveLeg_7 vX5_108 mX0_distance (hdist) ⟨Nat.le_of_ble_eq_true rfl, Nat.le_of_ble_eq_true rfl⟩ (Nat.le_of_ble_eq_true rfl) rfl ?_
    refine pr_istore 12 dX5_driveLeg_10 (pm_st_5 rfl rfl) rfl ?_
    refine pr_aload_n 13 dX5_driveLeg_12 rfl rfl rfl ?_
    refine pr_getR0 16 dX5_driveLeg_13 fX5_9 rfl ?_
    refine pr_iload_n 17 dX5_driveLeg_16 rfl rfl rfl ?_
    refine pr_dup2 rfl rfl 18 dX5_driveLeg_17 rfl ?_
    refine pr_iaload t 19 dX5_driveLeg_18 rfl rfl rfl (by omega) rfl ?_
    refine pr_iload 21 dX5_driveLeg_19 rfl rfl ?_
    refine pr_iadd 22 dX5_driveLeg_21 rfl ?_
    refine pr_iastore t 23 dX5_driveLeg_22 rfl rfl rfl (by omega) rfl ?_
    refine pr_iload_n 24 dX5_driveLeg_23 rfl rfl rfl ?_
    refine pr_if_ne 38 27 dX5_driveLeg_24 rfl rfl (fun c_24 => ?_) (fun c_24 => absurd (c_24) (nI_ne0 (by omega) (by omega)))
    refine pr_iconst (0) 39 dX5_driveLeg_38 (by decide) rfl ?_
    refine pr_istore 41 dX5_driveLeg_39 (pm_st_6 rfl rfl) rfl ?_
    refine lp (K 39) 0 _ (by omega) ⟨pm_fr.rf.uI (Or.inl ⟨by simp, rfl⟩), rfl, fun u => ?_, fun u => ?_, fun u => ?_, fun p q => ⟨fun z => absurd z (fun z => z), fun _ => ?_⟩, ?_, ?_, ?_, ?_⟩
    · by_cases z : u = t
      · subst z; rw [pm_gIe, if_pos rfl]
      · rw [pm_gIn (fun y => z y.2.2), if_neg z]
    · rw [pm_gIn (by simp), if_neg (fun y => o y.2)]
    · rw [pm_gIn (by simp), if_neg (by omega)]
    · rw [pm_gIn (by simp)]
    · funext z; rw [pm_gIn (by simp)]
    · funext z; rw [pm_gIn (by simp)]
    · funext z z'; rw [pm_gIn (by simp)]
    · funext z z'; rw [pm_gIn (by simp)]
end DLG
