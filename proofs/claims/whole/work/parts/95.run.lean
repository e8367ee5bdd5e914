/-! the class: a run of letters and digits (what wordKind answers is a premise here: hwk) -/
def dv (B : Nat → Nat) (q : Nat) : Nat → Nat
  | 0 => 0
  | n + 1 => if isL (B (q + n)) = true then dv B q n else dv B q n * 10 + (B (q + n) - 48)
def cL (B : Nat → Nat) (q : Nat) : Nat → Nat
  | 0 => 0
  | n + 1 => if isL (B (q + n)) = true then cL B q n + 1 else cL B q n
theorem cL_le {B : Nat → Nat} {q : Nat} : ∀ n, cL B q n ≤ n
  | 0 => Nat.le_refl _
  | n + 1 => by
    have := cL_le (B := B) (q := q) n
    unfold cL
    split <;> omega
theorem cL_0 {B : Nat → Nat} {q : Nat} : ∀ n, cL B q n = 0 ↔ aN B q n = true
  | 0 => by simp [cL, aN]
  | n + 1 => by
    have := cL_0 (B := B) (q := q) n
    unfold cL aN
    by_cases z : isL (B (q + n)) = true
    · rw [if_pos z]; simp [z]
    · rw [if_neg z, this]; simp [z]
theorem cL_n {B : Nat → Nat} {q : Nat} : ∀ n, cL B q n = n ↔ aL B q n = true
  | 0 => by simp [cL, aL]
  | n + 1 => by
    have := cL_n (B := B) (q := q) n
    have hle := cL_le (B := B) (q := q) n
    unfold cL aL
    by_cases z : isL (B (q + n)) = true
    · rw [if_pos z]; simp [z, ← this]
    · rw [if_neg z]; simp [z]; omega
theorem dv_nv {B : Nat → Nat} {q : Nat} : ∀ n, n ≤ 4 → aN B q n = true → dv B q n = nv B q n
  | 0, _, _ => rfl
  | n + 1, hn, h => by
    unfold aN at h
    simp at h
    unfold dv nv
    rw [if_neg (by simp [h.2]), if_pos (by omega), dv_nv n (by omega) h.1]
    omega
section RUN
variable {mem mem0 : pm_M} {T : Nat} {B : Nat → Nat}
def sSc : Nat → Nat → Prop := fun t i => t = 10006906 ∧ i = 0
/-- all of the scanner but where it is and its number -/
def scF (m0 m : pm_M) : Prop := pm_fr sSc m0 m ∧ ∀ k, k ≠ 4 → k ≠ 3 → m.1 10006906 0 k = m0.1 10006906 0 k
theorem scF.u {j : Nat} {x : Int32} (h : scF mem0 mem) (hj : j = 4 ∨ j = 3) : scF mem0 (pm_uI mem 10006906 0 j x) := ⟨h.1.uI ⟨rfl, rfl⟩, fun k a b => by rw [pm_gIn (fun y => by have := y.2.2; omega)]; exact h.2 k a b⟩
theorem scF.tap (h : scF mem0 mem) (ht : tapC mem0 T B) : tapC mem T B := by
  unfold tapC
  rw [(h.1 10007907 0 (by simp [sSc])).1, (h.1 30840280 0 (by simp [sSc])).1]
  exact ht
/-- the kind of a run of k from q on -/
def rk2 (B : Nat → Nat) (q k : Nat) : Nat := if k = 0 then 1 else if aL B q k = true then wk B q k else if aN B q k = true ∧ k ≤ 4 then 2 else 1
set_option maxRecDepth 100000 in
theorem sp_X6_readRun {Q : Nat} (h : tapC mem0 T B) (hT : T ≤ 840) (hB : ∀ k, B k < 256) (hQ : Q < T) (hat : mem0.1 10006906 0 4 = nI Q) (hst : mem0.1 10006906 0 2 = nI Q)
    (hwk : ∀ mem k, scF mem0 mem → mem.1 10006906 0 4 = nI (Q + k) → Q + k ≤ T → Cd yX6_wordKind cX6_wordKind 1 (some .int) 5 142 [pR 10006906 0] mem (some (pI (nI (wk B Q k)))) mem) :
    Cl yX6_readRun cX6_readRun 4 (some .int) 6 162 [pR 10006906 0] mem0 (fun r mem => r = some (pI (nI (rk2 B Q (rn B T Q - Q)))) ∧ scF mem0 mem ∧ mem.1 10006906 0 4 = nI (rn B T Q) ∧ (rk2 B Q (rn B T Q - Q) = 2 → mem.1 10006906 0 3 = nI (nv B Q (rn B T Q - Q)))) := by
  have fin : ∀ k mem (a3 : Option pm_v), Q + k ≤ T → rn B T Q = Q + k → scF mem0 mem → mem.1 10006906 0 4 = nI (Q + k) → mem.1 10006906 0 3 = nI (dv B Q k) → PR cX6_readRun RX6 4 6 162 87 [some (pR 10006906 0), some (pI (nI (cL B Q k))), some (pI (nI (k - cL B Q k))), a3] [] mem (pm_RX cX6_readRun (some .int) (fun r mem => r = some (pI (nI (rk2 B Q (rn B T Q - Q)))) ∧ scF mem0 mem ∧ mem.1 10006906 0 4 = nI (rn B T Q) ∧ (rk2 B Q (rn B T Q - Q) = 2 → mem.1 10006906 0 3 = nI (nv B Q (rn B T Q - Q))))) := by
    intro k mem a3 hk hr hs h1 h2
    have hle := cL_le (B := B) (q := Q) k
    have c0 := cL_0 (B := B) (q := Q) k
    have cn := cL_n (B := B) (q := Q) k
    rw [hr, show Q + k - Q = k by omega]
    by_cases k0 : k = 0
    · have e0 : cL B Q k = 0 := by omega
      rw [show rk2 B Q k = 1 by rw [rk2, if_pos k0]]
      refine pr_iload_n 88 dX6_readRun_87 rfl rfl rfl ?_
      refine pr_if_ne 107 91 dX6_readRun_88 rfl rfl (fun c_88 => absurd (by rw [e0]; rfl) (c_88)) (fun c_88 => ?_)
      refine pr_iload_n 92 dX6_readRun_91 rfl rfl rfl ?_
      refine pr_iconst (1) 93 dX6_readRun_92 (by decide) rfl ?_
      refine pr_icmp_lt 105 96 dX6_readRun_93 rfl rfl (fun c_93 => ?_) (fun c_93 => absurd (nI_lt (b := 1) (by omega) (by omega)) (c_93))
      refine pr_iconst (1) 106 dX6_readRun_105 (by decide) rfl ?_
      refine pr_ireturn dX6_readRun_106 rfl ?_
      exact ⟨rfl, hs, h1, fun z => absurd z (by decide)⟩
    by_cases z : cL B Q k = 0
    · have hA := c0.mp z
      have hA2 : ¬ aL B Q k = true := fun y => by have := cn.mpr y; omega
      by_cases z4 : k ≤ 4
      · rw [show rk2 B Q k = 2 by rw [rk2, if_neg k0, if_neg hA2, if_pos ⟨hA, z4⟩]]
        refine pr_iload_n 88 dX6_readRun_87 rfl rfl rfl ?_
        refine pr_if_ne 107 91 dX6_readRun_88 rfl rfl (fun c_88 => absurd (by rw [z]; rfl) (c_88)) (fun c_88 => ?_)
        refine pr_iload_n 92 dX6_readRun_91 rfl rfl rfl ?_
        refine pr_iconst (1) 93 dX6_readRun_92 (by decide) rfl ?_
        refine pr_icmp_lt 105 96 dX6_readRun_93 rfl rfl (fun c_93 => absurd (c_93) (nI_nlt (b := 1) (by omega) (by omega))) (fun c_93 => ?_)
        refine pr_iload_n 97 dX6_readRun_96 rfl rfl rfl ?_
        refine pr_iconst (4) 98 dX6_readRun_97 (by decide) rfl ?_
        refine pr_icmp_gt 105 101 dX6_readRun_98 rfl rfl (fun c_98 => absurd (c_98) (nI_nlt (a := 4) (by omega) (by omega))) (fun c_98 => ?_)
        refine pr_iconst (2) 102 dX6_readRun_101 (by decide) rfl ?_
        refine pr_goto 106 dX6_readRun_102 rfl ?_
        refine pr_ireturn dX6_readRun_106 rfl ?_
        exact ⟨rfl, hs, h1, fun _ => by rw [h2, dv_nv k z4 hA]⟩
      · rw [show rk2 B Q k = 1 by rw [rk2, if_neg k0, if_neg hA2, if_neg (fun y => z4 y.2)]]
        refine pr_iload_n 88 dX6_readRun_87 rfl rfl rfl ?_
        refine pr_if_ne 107 91 dX6_readRun_88 rfl rfl (fun c_88 => absurd (by rw [z]; rfl) (c_88)) (fun c_88 => ?_)
        refine pr_iload_n 92 dX6_readRun_91 rfl rfl rfl ?_
        refine pr_iconst (1) 93 dX6_readRun_92 (by decide) rfl ?_
        refine pr_icmp_lt 105 96 dX6_readRun_93 rfl rfl (fun c_93 => absurd (c_93) (nI_nlt (b := 1) (by omega) (by omega))) (fun c_93 => ?_)
        refine pr_iload_n 97 dX6_readRun_96 rfl rfl rfl ?_
        refine pr_iconst (4) 98 dX6_readRun_97 (by decide) rfl ?_
        refine pr_icmp_gt 105 101 dX6_readRun_98 rfl rfl (fun c_98 => ?_) (fun c_98 => absurd (nI_lt (a := 4) (by omega) (by omega)) (c_98))
        refine pr_iconst (1) 106 dX6_readRun_105 (by decide) rfl ?_
        refine pr_ireturn dX6_readRun_106 rfl ?_
        exact ⟨rfl, hs, h1, fun z => absurd z (by decide)⟩
    · have hA : ¬ aN B Q k = true := fun y => z (c0.mpr y)
      by_cases zn : cL B Q k = k
      · have hA2 := cn.mp zn
        have hw := wk_ge B Q k
        rw [show rk2 B Q k = wk B Q k by rw [rk2, if_neg k0, if_pos hA2]]
        refine pr_iload_n 88 dX6_readRun_87 rfl rfl rfl ?_
        refine pr_if_ne 107 91 dX6_readRun_88 rfl rfl (fun c_88 => ?_) (fun c_88 => absurd (c_88) (nI_ne0 (by omega) (by omega)))
        refine pr_iload_n 108 dX6_readRun_107 rfl rfl rfl ?_
        refine pr_if_ne 118 111 dX6_readRun_108 rfl rfl (fun c_108 => absurd (by rw [zn, Nat.sub_self]; rfl) (c_108)) (fun c_108 => ?_)
        refine pr_aload_n 112 dX6_readRun_111 rfl rfl rfl ?_
        refine pr_invD0 115 dX6_readRun_112 vX6_60 mX6_wordKind (hwk mem k hs h1 hk) ⟨Nat.le_of_ble_eq_true rfl, Nat.le_of_ble_eq_true rfl⟩ (Nat.le_of_ble_eq_true rfl) rfl ?_
        refine pr_goto 119 dX6_readRun_115 rfl ?_
        refine pr_ireturn dX6_readRun_119 rfl ?_
        exact ⟨rfl, hs, h1, fun y => by omega⟩
      · have hA2 : ¬ aL B Q k = true := fun y => zn (cn.mpr y)
        rw [show rk2 B Q k = 1 by rw [rk2, if_neg k0, if_neg hA2, if_neg (fun y => hA y.1)]]
        refine pr_iload_n 88 dX6_readRun_87 rfl rfl rfl ?_
        refine pr_if_ne 107 91 dX6_readRun_88 rfl rfl (fun c_88 => ?_) (fun c_88 => absurd (c_88) (nI_ne0 (by omega) (by omega)))
        refine pr_iload_n 108 dX6_readRun_107 rfl rfl rfl ?_
        refine pr_if_ne 118 111 dX6_readRun_108 rfl rfl (fun c_108 => ?_) (fun c_108 => absurd (c_108) (nI_ne0 (by omega) (by omega)))
        refine pr_iconst (1) 119 dX6_readRun_118 (by decide) rfl ?_
        refine pr_ireturn dX6_readRun_119 rfl ?_
        exact ⟨rfl, hs, h1, fun z => absurd z (by decide)⟩
  have lp : ∀ n k mem (a3 : Option pm_v), Q + k + n = T → rn B T (Q + k) = rn B T Q → scF mem0 mem → mem.1 10006906 0 4 = nI (Q + k) → mem.1 10006906 0 3 = nI (dv B Q k) → PR cX6_readRun RX6 4 6 162 9 [some (pR 10006906 0), some (pI (nI (cL B Q k))), some (pI (nI (k - cL B Q k))), a3] [] mem (pm_RX cX6_readRun (some .int) (fun r mem => r = some (pI (nI (rk2 B Q (rn B T Q - Q)))) ∧ scF mem0 mem ∧ mem.1 10006906 0 4 = nI (rn B T Q) ∧ (rk2 B Q (rn B T Q - Q) = 2 → mem.1 10006906 0 3 = nI (nv B Q (rn B T Q - Q))))) := by
    intro n
    induction n with
    | zero =>
      intro k mem a3 hk hr hs h1 h2
      have ht := hs.tap h
      refine pr_aload_n 10 dX6_readRun_9 rfl rfl rfl ?_
      refine pr_getI 13 dX6_readRun_10 fX6_15 rfl ?_
      rw [h1]
      refine pr_aload_n 14 dX6_readRun_13 rfl rfl rfl ?_
      refine pr_getR0 17 dX6_readRun_14 fX6_9 rfl ?_
      refine pr_getI 20 dX6_readRun_17 fX6_19 rfl ?_
      rw [ht.1]
      refine pr_icmp_ge 87 23 dX6_readRun_20 rfl rfl (fun c_20 => ?_) (fun c_20 => absurd ((nI_leI (by omega) (by omega)).mpr (by omega)) (c_20))
      exact fin k mem _ (by omega) (by rw [← hr, rn_e (by omega)]) hs h1 h2
    | succ n ih =>
      intro k mem a3 hk hr hs h1 h2
      have ht := hs.tap h
      have eb : byt B T (Q + k) = B (Q + k) := by rw [byt, if_pos (by omega)]
      have hbk := hB (Q + k)
      have hle := cL_le (B := B) (q := Q) k
      by_cases hl : isL (B (Q + k)) = true
      · have hI := fun mem' a3 => ih (k + 1) mem' a3 (by omega) (by rw [← hr, rn_s (p := Q + k) (by omega) (by rw [hl]; rfl)]; rfl)
        rw [show cL B Q (k + 1) = cL B Q k + 1 by rw [cL, if_pos hl], show dv B Q (k + 1) = dv B Q k by rw [dv, if_pos hl], show k + 1 - (cL B Q k + 1) = k - cL B Q k by omega] at hI
        refine pr_aload_n 10 dX6_readRun_9 rfl rfl rfl ?_
        refine pr_getI 13 dX6_readRun_10 fX6_15 rfl ?_
        rw [h1]
        refine pr_aload_n 14 dX6_readRun_13 rfl rfl rfl ?_
        refine pr_getR0 17 dX6_readRun_14 fX6_9 rfl ?_
        refine pr_getI 20 dX6_readRun_17 fX6_19 rfl ?_
        rw [ht.1]
        refine pr_icmp_ge 87 23 dX6_readRun_20 rfl rfl (fun c_20 => absurd (c_20) (nI_ge (by omega) (by omega))) (fun c_20 => ?_)
        refine pr_aload_n 24 dX6_readRun_23 rfl rfl rfl ?_
        refine pr_getR0 27 dX6_readRun_24 fX6_9 rfl ?_
        refine pr_aload_n 28 dX6_readRun_27 rfl rfl rfl ?_
        refine pr_getI 31 dX6_readRun_28 fX6_15 rfl ?_
        rw [h1]
        refine pr_invD1 34 dX6_readRun_31 vX6_33 mX7_byteAt (sp_X7_byteAt ht hT (by omega)) ⟨Nat.le_of_ble_eq_true rfl, Nat.le_of_ble_eq_true rfl⟩ (Nat.le_of_ble_eq_true rfl) rfl ?_
        rw [eb]
        refine pr_istore_n 35 dX6_readRun_34 rfl (pm_st_3 rfl rfl) rfl ?_
        refine pr_iload_n 36 dX6_readRun_35 rfl rfl rfl ?_
        refine pr_ivsD1 39 dX6_readRun_36 sX6_54 mX6_isLetter (sp_X6_isLetter hbk) ⟨Nat.le_of_ble_eq_true rfl, Nat.le_of_ble_eq_true rfl⟩ (Nat.le_of_ble_eq_true rfl) rfl ?_
        refine pr_if_eq 48 42 dX6_readRun_39 rfl rfl (fun c_39 => absurd (c_39) (by rw [if_pos hl]; decide)) (fun c_39 => ?_)
        refine pr_iinc 45 dX6_readRun_42 rfl (by first | exact pm_inc _ | rfl) (pm_st_1 rfl rfl) rfl ?_
        refine pr_goto 74 dX6_readRun_45 rfl ?_
        refine pr_aload_n 75 dX6_readRun_74 rfl rfl rfl ?_
        refine pr_dup rfl 76 dX6_readRun_75 rfl ?_
        refine pr_getI 79 dX6_readRun_76 fX6_15 rfl ?_
        rw [h1]
        refine pr_iconst (1) 80 dX6_readRun_79 (by decide) rfl ?_
        refine pr_iadd 81 dX6_readRun_80 rfl ?_
        rw [nI_1]
        refine pr_putI 84 dX6_readRun_81 fX6_15 rfl ?_
        refine pr_goto 9 dX6_readRun_84 rfl ?_
        exact hI _ _ (hs.u (by decide)) pm_gIe (by rw [pm_gIn (by simp)]; exact h2)
      · by_cases hd : isD (B (Q + k)) = true
        · have hge : 48 ≤ B (Q + k) := by simp [isD] at hd; omega
          have hI := fun mem' a3 => ih (k + 1) mem' a3 (by omega) (by rw [← hr, rn_s (p := Q + k) (by omega) (by rw [hd]; simp)]; rfl)
          rw [show cL B Q (k + 1) = cL B Q k by rw [cL, if_neg hl], show dv B Q (k + 1) = dv B Q k * 10 + (B (Q + k) - 48) by rw [dv, if_neg hl], show k + 1 - cL B Q k = k - cL B Q k + 1 by omega] at hI
          refine pr_aload_n 10 dX6_readRun_9 rfl rfl rfl ?_
          refine pr_getI 13 dX6_readRun_10 fX6_15 rfl ?_
          rw [h1]
          refine pr_aload_n 14 dX6_readRun_13 rfl rfl rfl ?_
          refine pr_getR0 17 dX6_readRun_14 fX6_9 rfl ?_
          refine pr_getI 20 dX6_readRun_17 fX6_19 rfl ?_
          rw [ht.1]
          refine pr_icmp_ge 87 23 dX6_readRun_20 rfl rfl (fun c_20 => absurd (c_20) (nI_ge (by omega) (by omega))) (fun c_20 => ?_)
          refine pr_aload_n 24 dX6_readRun_23 rfl rfl rfl ?_
          refine pr_getR0 27 dX6_readRun_24 fX6_9 rfl ?_
          refine pr_aload_n 28 dX6_readRun_27 rfl rfl rfl ?_
          refine pr_getI 31 dX6_readRun_28 fX6_15 rfl ?_
          rw [h1]
          refine pr_invD1 34 dX6_readRun_31 vX6_33 mX7_byteAt (sp_X7_byteAt ht hT (by omega)) ⟨Nat.le_of_ble_eq_true rfl, Nat.le_of_ble_eq_true rfl⟩ (Nat.le_of_ble_eq_true rfl) rfl ?_
          rw [eb]
          refine pr_istore_n 35 dX6_readRun_34 rfl (pm_st_3 rfl rfl) rfl ?_
          refine pr_iload_n 36 dX6_readRun_35 rfl rfl rfl ?_
          refine pr_ivsD1 39 dX6_readRun_36 sX6_54 mX6_isLetter (sp_X6_isLetter hbk) ⟨Nat.le_of_ble_eq_true rfl, Nat.le_of_ble_eq_true rfl⟩ (Nat.le_of_ble_eq_true rfl) rfl ?_
          refine pr_if_eq 48 42 dX6_readRun_39 rfl rfl (fun c_39 => ?_) (fun c_39 => absurd (by rw [if_neg hl]) (c_39))
          refine pr_iload_n 49 dX6_readRun_48 rfl rfl rfl ?_
          refine pr_ivsD1 52 dX6_readRun_49 sX6_57 mX6_isDigit (sp_X6_isDigit hbk) ⟨Nat.le_of_ble_eq_true rfl, Nat.le_of_ble_eq_true rfl⟩ (Nat.le_of_ble_eq_true rfl) rfl ?_
          refine pr_if_eq 87 55 dX6_readRun_52 rfl rfl (fun c_52 => absurd (c_52) (by rw [if_pos hd]; decide)) (fun c_52 => ?_)
          refine pr_iinc 58 dX6_readRun_55 rfl (by first | exact pm_inc _ | rfl) (pm_st_2 rfl rfl) rfl ?_
          refine pr_aload_n 59 dX6_readRun_58 rfl rfl rfl ?_
          refine pr_aload_n 60 dX6_readRun_59 rfl rfl rfl ?_
          refine pr_getI 63 dX6_readRun_60 fX6_51 rfl ?_
          rw [h2]
          refine pr_bipush (10) 65 dX6_readRun_63 (by decide) rfl ?_
          refine pr_imul 66 dX6_readRun_65 rfl ?_
          rw [show (10 : Int32) = nI 10 from rfl, nI_mulN]
          refine pr_iload_n 67 dX6_readRun_66 rfl rfl rfl ?_
          refine pr_bipush (48) 69 dX6_readRun_67 (by decide) rfl ?_
          refine pr_isub 70 dX6_readRun_69 rfl ?_
          rw [show (48 : Int32) = nI 48 from rfl, nI_subN hge]
          refine pr_iadd 71 dX6_readRun_70 rfl ?_
          rw [nI_add]
          refine pr_putI 74 dX6_readRun_71 fX6_51 rfl ?_
          refine pr_aload_n 75 dX6_readRun_74 rfl rfl rfl ?_
          refine pr_dup rfl 76 dX6_readRun_75 rfl ?_
          refine pr_getI 79 dX6_readRun_76 fX6_15 rfl ?_
          rw [pm_gIn (by simp), h1]
          refine pr_iconst (1) 80 dX6_readRun_79 (by decide) rfl ?_
          refine pr_iadd 81 dX6_readRun_80 rfl ?_
          rw [nI_1]
          refine pr_putI 84 dX6_readRun_81 fX6_15 rfl ?_
          refine pr_goto 9 dX6_readRun_84 rfl ?_
          exact hI _ _ ((hs.u (by decide)).u (by decide)) pm_gIe (by rw [pm_gIn (by simp), pm_gIe])
        · refine pr_aload_n 10 dX6_readRun_9 rfl rfl rfl ?_
          refine pr_getI 13 dX6_readRun_10 fX6_15 rfl ?_
          rw [h1]
          refine pr_aload_n 14 dX6_readRun_13 rfl rfl rfl ?_
          refine pr_getR0 17 dX6_readRun_14 fX6_9 rfl ?_
          refine pr_getI 20 dX6_readRun_17 fX6_19 rfl ?_
          rw [ht.1]
          refine pr_icmp_ge 87 23 dX6_readRun_20 rfl rfl (fun c_20 => absurd (c_20) (nI_ge (by omega) (by omega))) (fun c_20 => ?_)
          refine pr_aload_n 24 dX6_readRun_23 rfl rfl rfl ?_
          refine pr_getR0 27 dX6_readRun_24 fX6_9 rfl ?_
          refine pr_aload_n 28 dX6_readRun_27 rfl rfl rfl ?_
          refine pr_getI 31 dX6_readRun_28 fX6_15 rfl ?_
          rw [h1]
          refine pr_invD1 34 dX6_readRun_31 vX6_33 mX7_byteAt (sp_X7_byteAt ht hT (by omega)) ⟨Nat.le_of_ble_eq_true rfl, Nat.le_of_ble_eq_true rfl⟩ (Nat.le_of_ble_eq_true rfl) rfl ?_
          rw [eb]
          refine pr_istore_n 35 dX6_readRun_34 rfl (pm_st_3 rfl rfl) rfl ?_
          refine pr_iload_n 36 dX6_readRun_35 rfl rfl rfl ?_
          refine pr_ivsD1 39 dX6_readRun_36 sX6_54 mX6_isLetter (sp_X6_isLetter hbk) ⟨Nat.le_of_ble_eq_true rfl, Nat.le_of_ble_eq_true rfl⟩ (Nat.le_of_ble_eq_true rfl) rfl ?_
          refine pr_if_eq 48 42 dX6_readRun_39 rfl rfl (fun c_39 => ?_) (fun c_39 => absurd (by rw [if_neg hl]) (c_39))
          refine pr_iload_n 49 dX6_readRun_48 rfl rfl rfl ?_
          refine pr_ivsD1 52 dX6_readRun_49 sX6_57 mX6_isDigit (sp_X6_isDigit hbk) ⟨Nat.le_of_ble_eq_true rfl, Nat.le_of_ble_eq_true rfl⟩ (Nat.le_of_ble_eq_true rfl) rfl ?_
          refine pr_if_eq 87 55 dX6_readRun_52 rfl rfl (fun c_52 => ?_) (fun c_52 => absurd (by rw [if_neg hd]) (c_52))
          exact fin k mem _ (by omega) (by rw [← hr, rn_e (by simp [hl, hd])]) hs h1 h2
  refine Cl.of (own := RX6) rfl rfl (Nat.le_of_ble_eq_true rfl) rfl ?_; show PR _ _ _ _ _ _ [some _, none, none, none] _ _ _
  refine pr_iconst (0) 1 dX6_readRun_0 (by decide) rfl ?_
  refine pr_istore_n 2 dX6_readRun_1 rfl (pm_st_1 rfl rfl) rfl ?_
  refine pr_iconst (0) 3 dX6_readRun_2 (by decide) rfl ?_
  refine pr_istore_n 4 dX6_readRun_3 rfl (pm_st_2 rfl rfl) rfl ?_
  refine pr_aload_n 5 dX6_readRun_4 rfl rfl rfl ?_
  refine pr_iconst (0) 6 dX6_readRun_5 (by decide) rfl ?_
  refine pr_putI 9 dX6_readRun_6 fX6_51 rfl ?_
  exact lp (T - Q) 0 _ _ (by omega) rfl (scF.u ⟨pm_fr.rf, fun _ _ _ => rfl⟩ (by decide)) (by rw [pm_gIn (by simp)]; exact hat) pm_gIe
end RUN
