/-! the class: the next token (what wordKind answers is a premise here: hwk) -/
section NXT
variable {mem mem0 : pm_M} {T : Nat} {B : Nat → Nat}
/-- all of the scanner's rows but its own numbers, its limit -/
def nxF (m0 m : pm_M) : Prop := pm_fr sSc m0 m ∧ m.1 10006906 0 5 = m0.1 10006906 0 5
theorem nxF.rf : nxF mem mem := ⟨pm_fr.rf, rfl⟩
theorem nxF.u {j : Nat} {x : Int32} (h : nxF mem0 mem) (hj : j ≠ 5) : nxF mem0 (pm_uI mem 10006906 0 j x) := ⟨h.1.uI ⟨rfl, rfl⟩, by rw [pm_gIn (fun y => hj y.2.2.symm)]; exact h.2⟩
theorem nxF.sc {m1 : pm_M} (h : nxF mem0 mem) (h2 : scF mem m1) : nxF mem0 m1 := ⟨h.1.tr h2.1, by rw [h2.2 _ (by decide) (by decide)]; exact h.2⟩
theorem nxF.tap (h : nxF mem0 mem) (ht : tapC mem0 T B) : tapC mem T B := by
  unfold tapC
  rw [(h.1 10007907 0 (by simp [sSc])).1, (h.1 30840280 0 (by simp [sSc])).1]
  exact ht
set_option maxRecDepth 100000 in
theorem sp_X6_next {p : Nat} (h : tapC mem0 T B) (hT : T ≤ 840) (hB : ∀ k, B k < 256) (hp : p ≤ T) (hat : mem0.1 10006906 0 4 = nI p) (hlm : mem0.1 10006906 0 5 = nI (min T 800))
    (hwk : ∀ mem q k, tapC mem T B → mem.1 10006906 0 2 = nI q → mem.1 10006906 0 4 = nI (q + k) → q + k ≤ T → Cd yX6_wordKind cX6_wordKind 1 (some .int) 5 142 [pR 10006906 0] mem (some (pI (nI (wk B q k)))) mem) :
    Cl yX6_next cX6_next 1 none 7 185 [pR 10006906 0] mem0 (fun r mem => r = none ∧ nxF mem0 mem ∧ ctk mem B T p) := by
  have st2 : ∀ q mem, p ≤ q → q ≤ T → tQ B T p = q → nxF mem0 mem → mem.1 10006906 0 4 = nI q → PR cX6_next RX6 1 7 185 41 [some (pR 10006906 0)] [] mem (pm_RX cX6_next none (fun r mem => r = none ∧ nxF mem0 mem ∧ ctk mem B T p)) := by
    intro q mem hpq hq eq hf h1
    have h2 : mem.1 10006906 0 5 = nI (min T 800) := by rw [hf.2]; exact hlm
    have ht := hf.tap h
    by_cases c : min T 800 ≤ q
    · have eK : tK B T p = 0 := by rw [tK, eq, if_pos c]
      have eS : tS B T p = min T 800 := by rw [tS, eq]; omega
      refine pr_aload_n 42 dX6_next_41 rfl rfl rfl ?_
      refine pr_getI 45 dX6_next_42 fX6_15 rfl ?_
      rw [h1]
      refine pr_aload_n 46 dX6_next_45 rfl rfl rfl ?_
      refine pr_getI 49 dX6_next_46 fX6_30 rfl ?_
      rw [h2]
      refine pr_icmp_lt 66 52 dX6_next_49 rfl rfl (fun c_49 => absurd (c_49) (nI_nlt c (by omega))) (fun c_49 => ?_)
      refine pr_aload_n 53 dX6_next_52 rfl rfl rfl ?_
      refine pr_aload_n 54 dX6_next_53 rfl rfl rfl ?_
      refine pr_getI 57 dX6_next_54 fX6_30 rfl ?_
      rw [h2]
      refine pr_putI 60 dX6_next_57 fX6_41 rfl ?_
      refine pr_aload_n 61 dX6_next_60 rfl rfl rfl ?_
      refine pr_iconst (0) 62 dX6_next_61 (by decide) rfl ?_
      refine pr_putI 65 dX6_next_62 fX6_44 rfl ?_
      refine pr_return dX6_next_65 rfl ?_
      exact ⟨rfl, (hf.u (by decide)).u (by decide), by rw [pm_gIe, eK]; rfl, by rw [pm_gIn (by simp), pm_gIe, eS], fun z => by omega, fun z => by omega⟩
    · have eS : tS B T p = q := by rw [tS, eq]; omega
      have eb : byt B T q = B q := by rw [byt, if_pos (by omega)]
      have hbq := hB q
      by_cases c9 : B q = 59
      · have eK : tK B T p = 3 := by rw [tK, eq, if_neg c, if_pos c9]
        have eN : tN B T p = q + 1 := by rw [tN, eq, if_pos c9]
        have ht2 : tapC (pm_uI mem 10006906 0 2 (nI q)) T B := (nxF.u hf (j := 2) (x := nI q) (by decide)).tap h
        refine pr_aload_n 42 dX6_next_41 rfl rfl rfl ?_
        refine pr_getI 45 dX6_next_42 fX6_15 rfl ?_
        rw [h1]
        refine pr_aload_n 46 dX6_next_45 rfl rfl rfl ?_
        refine pr_getI 49 dX6_next_46 fX6_30 rfl ?_
        rw [h2]
        refine pr_icmp_lt 66 52 dX6_next_49 rfl rfl (fun c_49 => ?_) (fun c_49 => absurd (nI_lt (by omega) (by omega)) (c_49))
        refine pr_aload_n 67 dX6_next_66 rfl rfl rfl ?_
        refine pr_aload_n 68 dX6_next_67 rfl rfl rfl ?_
        refine pr_getI 71 dX6_next_68 fX6_15 rfl ?_
        rw [h1]
        refine pr_putI 74 dX6_next_71 fX6_41 rfl ?_
        refine pr_aload_n 75 dX6_next_74 rfl rfl rfl ?_
        refine pr_getR0 78 dX6_next_75 fX6_9 rfl ?_
        refine pr_aload_n 79 dX6_next_78 rfl rfl rfl ?_
        refine pr_getI 82 dX6_next_79 fX6_15 rfl ?_
        rw [pm_gIn (by simp), h1]
        refine pr_invD1 85 dX6_next_82 vX6_33 mX7_byteAt (sp_X7_byteAt ht2 hT (by omega)) ⟨Nat.le_of_ble_eq_true rfl, Nat.le_of_ble_eq_true rfl⟩ (Nat.le_of_ble_eq_true rfl) rfl ?_
        rw [eb, c9]
        refine pr_bipush (59) 87 dX6_next_85 (by decide) rfl ?_
        refine pr_icmp_ne 106 90 dX6_next_87 rfl rfl (fun c_87 => absurd (rfl) (c_87)) (fun c_87 => ?_)
        refine pr_aload_n 91 dX6_next_90 rfl rfl rfl ?_
        refine pr_dup rfl 92 dX6_next_91 rfl ?_
        refine pr_getI 95 dX6_next_92 fX6_15 rfl ?_
        rw [pm_gIn (by simp), h1]
        refine pr_iconst (1) 96 dX6_next_95 (by decide) rfl ?_
        refine pr_iadd 97 dX6_next_96 rfl ?_
        rw [nI_1]
        refine pr_putI 100 dX6_next_97 fX6_15 rfl ?_
        refine pr_aload_n 101 dX6_next_100 rfl rfl rfl ?_
        refine pr_iconst (3) 102 dX6_next_101 (by decide) rfl ?_
        refine pr_putI 105 dX6_next_102 fX6_44 rfl ?_
        refine pr_return dX6_next_105 rfl ?_
        exact ⟨rfl, ((hf.u (by decide)).u (by decide)).u (by decide), by rw [pm_gIe, eK]; rfl, by rw [pm_gIn (by simp), pm_gIn (by simp), pm_gIe, eS], fun z => by omega, fun _ => by rw [pm_gIn (by simp), pm_gIe, eN]⟩
      · have hge := rn_ge (B := B) (n := T - q) (p := q) (T := T) (by omega)
        have eK : tK B T p = rk2 B q (rn B T q - q) := by
          rw [tK, eq, if_neg c, if_neg c9, rk2]
          by_cases z : rn B T q = q
          · rw [if_pos z, if_pos (by omega)]
          · rw [if_neg z, if_neg (show ¬ rn B T q - q = 0 by omega)]
        have eN : tN B T p = rn B T q := by rw [tN, eq, if_neg c9]
        have eV : tV B T p = nv B q (rn B T q - q) := by rw [tV, eq]
        have hf2 : nxF mem0 (pm_uI mem 10006906 0 2 (nI q)) := hf.u (by decide)
        have ht2 := hf2.tap h
        refine pr_aload_n 42 dX6_next_41 rfl rfl rfl ?_
        refine pr_getI 45 dX6_next_42 fX6_15 rfl ?_
        rw [h1]
        refine pr_aload_n 46 dX6_next_45 rfl rfl rfl ?_
        refine pr_getI 49 dX6_next_46 fX6_30 rfl ?_
        rw [h2]
        refine pr_icmp_lt 66 52 dX6_next_49 rfl rfl (fun c_49 => ?_) (fun c_49 => absurd (nI_lt (by omega) (by omega)) (c_49))
        refine pr_aload_n 67 dX6_next_66 rfl rfl rfl ?_
        refine pr_aload_n 68 dX6_next_67 rfl rfl rfl ?_
        refine pr_getI 71 dX6_next_68 fX6_15 rfl ?_
        rw [h1]
        refine pr_putI 74 dX6_next_71 fX6_41 rfl ?_
        refine pr_aload_n 75 dX6_next_74 rfl rfl rfl ?_
        refine pr_getR0 78 dX6_next_75 fX6_9 rfl ?_
        refine pr_aload_n 79 dX6_next_78 rfl rfl rfl ?_
        refine pr_getI 82 dX6_next_79 fX6_15 rfl ?_
        rw [pm_gIn (by simp), h1]
        refine pr_invD1 85 dX6_next_82 vX6_33 mX7_byteAt (sp_X7_byteAt ht2 hT (by omega)) ⟨Nat.le_of_ble_eq_true rfl, Nat.le_of_ble_eq_true rfl⟩ (Nat.le_of_ble_eq_true rfl) rfl ?_
        rw [eb]
        refine pr_bipush (59) 87 dX6_next_85 (by decide) rfl ?_
        refine pr_icmp_ne 106 90 dX6_next_87 rfl rfl (fun c_87 => ?_) (fun c_87 => absurd (c_87) (fun z => c9 ((nI_eq (b := 59) (by omega) (by omega)).mp z)))
        refine pr_aload_n 107 dX6_next_106 rfl rfl rfl ?_
        refine pr_aload_n 108 dX6_next_107 rfl rfl rfl ?_
        refine pr_invDR0 111 dX6_next_108 vX6_47 mX6_readRun (sp_X6_readRun ht2 hT hB (by omega) (by rw [pm_gIn (by simp)]; exact h1) pm_gIe (fun mem' k hs a b => hwk mem' q k (hs.tap ht2) (by rw [hs.2 _ (by decide) (by decide), pm_gIe]) a b)) ⟨Nat.le_of_ble_eq_true rfl, Nat.le_of_ble_eq_true rfl⟩ (Nat.le_of_ble_eq_true rfl) rfl (fun mem3 h3 => ?_)
        refine pr_putI 114 dX6_next_111 fX6_44 rfl ?_
        refine pr_return dX6_next_114 rfl ?_
        obtain ⟨s3, a3, v3⟩ := h3
        refine ⟨rfl, (hf2.sc s3).u (by decide), by rw [pm_gIe, eK], ?_, fun z => ?_, fun _ => ?_⟩
        · rw [pm_gIn (by simp), s3.2 _ (by decide) (by decide), pm_gIe, eS]
        · rw [pm_gIn (by simp), eV]; exact v3 (by rw [← eK]; exact z)
        · rw [pm_gIn (by simp), eN]; exact a3
  have lp : ∀ n q mem, q + n = T → p ≤ q → sk B (min T 800) q = tQ B T p → nxF mem0 mem → mem.1 10006906 0 4 = nI q → PR cX6_next RX6 1 7 185 0 [some (pR 10006906 0)] [] mem (pm_RX cX6_next none (fun r mem => r = none ∧ nxF mem0 mem ∧ ctk mem B T p)) := by
    intro n
    induction n with
    | zero =>
      intro q mem hn hpq hs hf h1
      have h2 : mem.1 10006906 0 5 = nI (min T 800) := by rw [hf.2]; exact hlm
      refine pr_aload_n 1 dX6_next_0 rfl rfl rfl ?_
      refine pr_getI 4 dX6_next_1 fX6_15 rfl ?_
      rw [h1]
      refine pr_aload_n 5 dX6_next_4 rfl rfl rfl ?_
      refine pr_getI 8 dX6_next_5 fX6_30 rfl ?_
      rw [h2]
      refine pr_icmp_ge 41 11 dX6_next_8 rfl rfl (fun c_8 => ?_) (fun c_8 => absurd ((nI_leI (by omega) (by omega)).mpr (by omega)) (c_8))
      exact st2 q mem hpq (by omega) (by rw [← hs, sk_e (by omega)]) hf h1
    | succ n ih =>
      intro q mem hn hpq hs hf h1
      have h2 : mem.1 10006906 0 5 = nI (min T 800) := by rw [hf.2]; exact hlm
      have ht := hf.tap h
      by_cases c : q < min T 800
      · have eb : byt B T q = B q := by rw [byt, if_pos (by omega)]
        have hbq := hB q
        by_cases b : isB (B q) = true
        · refine pr_aload_n 1 dX6_next_0 rfl rfl rfl ?_
          refine pr_getI 4 dX6_next_1 fX6_15 rfl ?_
          rw [h1]
          refine pr_aload_n 5 dX6_next_4 rfl rfl rfl ?_
          refine pr_getI 8 dX6_next_5 fX6_30 rfl ?_
          rw [h2]
          refine pr_icmp_ge 41 11 dX6_next_8 rfl rfl (fun c_8 => absurd (c_8) (nI_ge c (by omega))) (fun c_8 => ?_)
          refine pr_aload_n 12 dX6_next_11 rfl rfl rfl ?_
          refine pr_getR0 15 dX6_next_12 fX6_9 rfl ?_
          refine pr_aload_n 16 dX6_next_15 rfl rfl rfl ?_
          refine pr_getI 19 dX6_next_16 fX6_15 rfl ?_
          rw [h1]
          refine pr_invD1 22 dX6_next_19 vX6_33 mX7_byteAt (sp_X7_byteAt ht hT (by omega)) ⟨Nat.le_of_ble_eq_true rfl, Nat.le_of_ble_eq_true rfl⟩ (Nat.le_of_ble_eq_true rfl) rfl ?_
          rw [eb]
          refine pr_ivsD1 25 dX6_next_22 sX6_37 mX6_isBlank (sp_X6_isBlank hbq) ⟨Nat.le_of_ble_eq_true rfl, Nat.le_of_ble_eq_true rfl⟩ (Nat.le_of_ble_eq_true rfl) rfl ?_
          refine pr_if_eq 41 28 dX6_next_25 rfl rfl (fun c_25 => absurd (c_25) (by rw [if_pos b]; decide)) (fun c_25 => ?_)
          refine pr_aload_n 29 dX6_next_28 rfl rfl rfl ?_
          refine pr_dup rfl 30 dX6_next_29 rfl ?_
          refine pr_getI 33 dX6_next_30 fX6_15 rfl ?_
          rw [h1]
          refine pr_iconst (1) 34 dX6_next_33 (by decide) rfl ?_
          refine pr_iadd 35 dX6_next_34 rfl ?_
          rw [nI_1]
          refine pr_putI 38 dX6_next_35 fX6_15 rfl ?_
          refine pr_goto 0 dX6_next_38 rfl ?_
          exact ih (q + 1) _ (by omega) (by omega) (by rw [← hs, sk_s c b]) (hf.u (by decide)) pm_gIe
        · refine pr_aload_n 1 dX6_next_0 rfl rfl rfl ?_
          refine pr_getI 4 dX6_next_1 fX6_15 rfl ?_
          rw [h1]
          refine pr_aload_n 5 dX6_next_4 rfl rfl rfl ?_
          refine pr_getI 8 dX6_next_5 fX6_30 rfl ?_
          rw [h2]
          refine pr_icmp_ge 41 11 dX6_next_8 rfl rfl (fun c_8 => absurd (c_8) (nI_ge c (by omega))) (fun c_8 => ?_)
          refine pr_aload_n 12 dX6_next_11 rfl rfl rfl ?_
          refine pr_getR0 15 dX6_next_12 fX6_9 rfl ?_
          refine pr_aload_n 16 dX6_next_15 rfl rfl rfl ?_
          refine pr_getI 19 dX6_next_16 fX6_15 rfl ?_
          rw [h1]
          refine pr_invD1 22 dX6_next_19 vX6_33 mX7_byteAt (sp_X7_byteAt ht hT (by omega)) ⟨Nat.le_of_ble_eq_true rfl, Nat.le_of_ble_eq_true rfl⟩ (Nat.le_of_ble_eq_true rfl) rfl ?_
          rw [eb]
          refine pr_ivsD1 25 dX6_next_22 sX6_37 mX6_isBlank (sp_X6_isBlank hbq) ⟨Nat.le_of_ble_eq_true rfl, Nat.le_of_ble_eq_true rfl⟩ (Nat.le_of_ble_eq_true rfl) rfl ?_
          refine pr_if_eq 41 28 dX6_next_25 rfl rfl (fun c_25 => ?_) (fun c_25 => absurd (by rw [if_neg b]) (c_25))
          exact st2 q mem hpq (by omega) (by rw [← hs, sk_e (fun z => b z.2)]) hf h1
      · refine pr_aload_n 1 dX6_next_0 rfl rfl rfl ?_
        refine pr_getI 4 dX6_next_1 fX6_15 rfl ?_
        rw [h1]
        refine pr_aload_n 5 dX6_next_4 rfl rfl rfl ?_
        refine pr_getI 8 dX6_next_5 fX6_30 rfl ?_
        rw [h2]
        refine pr_icmp_ge 41 11 dX6_next_8 rfl rfl (fun c_8 => ?_) (fun c_8 => absurd ((nI_leI (by omega) (by omega)).mpr (by omega)) (c_8))
        exact st2 q mem hpq (by omega) (by rw [← hs, sk_e (fun z => c z.1)]) hf h1
  refine Cl.of (own := RX6) rfl rfl (Nat.le_of_ble_eq_true rfl) rfl ?_; show PR _ _ _ _ _ _ [some _] _ _ _
  exact lp (T - p) p mem0 (by omega) (Nat.le_refl _) rfl nxF.rf hat
end NXT
