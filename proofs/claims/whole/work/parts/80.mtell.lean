/-! told anew: the reference -/
section MTL
variable {mem mem0 : pm_M} {n : Nat} {K : Nat → Nat} {S : Nat → Nat → Nat}
def sMU : Nat → Nat → Prop := fun t i => t ∈ [10009909, 20869371, 20432373] ∧ i = 0
def sMS : Nat → Nat → Prop := fun t i => t ∈ [10009909, 20432373] ∧ i = 0
def mdH (m0 m : pm_M) : Prop := ∀ k, k ≠ 0 → k ≠ 14 → m.1 10009909 0 k = m0.1 10009909 0 k
def mdN (m0 m : pm_M) : Prop := ∀ k, k ≠ 14 → m.1 10009909 0 k = m0.1 10009909 0 k
def histM (mem : pm_M) (n : Nat) (S : Nat → Nat → Nat) : Prop := mem.1 10009909 0 14 = nI n ∧ ∀ j k, j < n → k < 36 → mem.1 20432373 0 (36 * j + k) = cdI k (S j k)
def MI (mem : pm_M) (K : Nat → Nat) (n : Nat) (S : Nat → Nat → Nat) : Prop := rowR 20869371 mem K ∧ histM mem n S ∧ HW n S K
theorem rowR.cd (h : rowR 20869371 mem K) {k : Nat} (hk : k < 36) : mem.1 20869371 0 k = cdI k (K k) := by
  unfold cdI
  by_cases z : 4 ≤ k ∧ k < 20
  · rw [if_pos z]
    have := h.2 (k - 4) (by omega)
    rwa [show 4 + (k - 4) = k by omega] at this
  · rw [if_neg z]
    exact h.1 k (by omega) (by omega)
theorem rowR.ofcd {K' : Nat → Nat} (h : rowR 20869371 mem0 K) (h1 : ∀ k, k < 36 → mem.1 20869371 0 k = cdI k (K' k)) (h2 : ∀ k, 36 ≤ k → mem.1 20869371 0 k = mem0.1 20869371 0 k) (hB : eqB K K') : rowR 20869371 mem K' := by
  refine ⟨fun k hk hc => ?_, fun t ht => ?_⟩
  · by_cases z : k < 36
    · rw [h1 k z, cdI, if_neg (by omega)]
    · rw [h2 k (by omega), hB k (by omega)]
      exact h.1 k hk hc
  · rw [h1 (4 + t) (by omega), cdI, if_pos (by omega)]
set_option maxRecDepth 100000 in
theorem sp_X9_snap (h : rowR 20869371 mem0 K) (hH : histM mem0 n S) (hn : n ≤ 12) (hS : S n = K) : Cl yX9_snap cX9_snap 2 none 0 0 [pR 10009909 0] mem0 (fun r mem => r = none ∧ pm_fr sMS mem0 mem ∧ mdN mem0 mem ∧ mem.1 10009909 0 14 = nI (n - ofN n + 1) ∧ ∀ j k, j < n - ofN n + 1 → k < 36 → mem.1 20432373 0 (36 * j + k) = cdI k (S (j + ofN n) k)) := by
  have ho : ofN n ≤ n := by unfold ofN; split <;> omega
  have hm12 : n - ofN n < 12 := by
    have ho : ofN n = if n = 12 then 1 else 0 := rfl
    split at ho <;> omega
  have lp2 : ∀ i k mem, k + i = 36 → pm_fr sMS mem0 mem → mdN mem0 mem → mem.1 10009909 0 14 = nI (n - ofN n) → (∀ j q, j < n - ofN n → q < 36 → mem.1 20432373 0 (36 * j + q) = cdI q (S (j + ofN n) q)) → (∀ q, q < k → mem.1 20432373 0 (36 * (n - ofN n) + q) = cdI q (K q)) → PR cX9_snap RX9 2 0 0 51 [some (pR 10009909 0), some (pI (nI k))] [] mem (pm_RX cX9_snap none (fun r mem => r = none ∧ pm_fr sMS mem0 mem ∧ mdN mem0 mem ∧ mem.1 10009909 0 14 = nI (n - ofN n + 1) ∧ ∀ j k, j < n - ofN n + 1 → k < 36 → mem.1 20432373 0 (36 * j + k) = cdI k (S (j + ofN n) k))) := by
    intro i
    induction i with
    | zero =>
      intro k mem hi f1 d1 s1 q1 q2
      have e : k = 36 := by omega
      subst e
      refine pr_iload_n 52 dX9_snap_51 rfl rfl rfl ?_
      refine pr_bipush (36) 54 dX9_snap_52 (by decide) rfl ?_
      refine pr_icmp_ge 83 57 dX9_snap_54 rfl rfl (fun c_54 => ?_) (fun c_54 => absurd (by decide) (c_54))
      refine pr_aload_n 84 dX9_snap_83 rfl rfl rfl ?_
      refine pr_dup rfl 85 dX9_snap_84 rfl ?_
      refine pr_getI 88 dX9_snap_85 fX9_167 rfl ?_
      rw [s1]
      refine pr_iconst (1) 89 dX9_snap_88 (by decide) rfl ?_
      refine pr_iadd 90 dX9_snap_89 rfl ?_
      rw [nI_1]
      refine pr_putI 93 dX9_snap_90 fX9_167 rfl ?_
      refine pr_return dX9_snap_93 rfl ?_
      refine ⟨rfl, f1.uI ⟨by simp, rfl⟩, fun k hk => by rw [pm_gIn (fun y => hk y.2.2)]; exact d1 k hk, pm_gIe, fun j k hj hk => ?_⟩
      rw [pm_gIn (by simp)]
      by_cases z : j = n - ofN n
      · rw [z, q2 k hk, show n - ofN n + ofN n = n by omega, hS]
      · exact q1 j k (by omega) hk
    | succ i ih =>
      intro k mem hi f1 d1 s1 q1 q2
      have r1 := (h.fr f1 (by simp [sMS])).cd (k := k) (by omega)
      refine pr_iload_n 52 dX9_snap_51 rfl rfl rfl ?_
      refine pr_bipush (36) 54 dX9_snap_52 (by decide) rfl ?_
      refine pr_icmp_ge 83 57 dX9_snap_54 rfl rfl (fun c_54 => absurd (c_54) (nI_ge (b := 36) (by omega) (by omega))) (fun c_54 => ?_)
      refine pr_aload_n 58 dX9_snap_57 rfl rfl rfl ?_
      refine pr_getR0 61 dX9_snap_58 fX9_70 rfl ?_
      refine pr_bipush (36) 63 dX9_snap_61 (by decide) rfl ?_
      refine pr_aload_n 64 dX9_snap_63 rfl rfl rfl ?_
      refine pr_getI 67 dX9_snap_64 fX9_167 rfl ?_
      rw [s1]
      refine pr_imul 68 dX9_snap_67 rfl ?_
      refine pr_iload_n 69 dX9_snap_68 rfl rfl rfl ?_
      refine pr_iadd 70 dX9_snap_69 rfl ?_
      refine pr_aload_n 71 dX9_snap_70 rfl rfl rfl ?_
      refine pr_getR0 74 dX9_snap_71 fX9_64 rfl ?_
      refine pr_iload_n 75 dX9_snap_74 rfl rfl rfl ?_
      refine pr_iaload k 76 dX9_snap_75 rfl rfl rfl (by omega) rfl ?_
      rw [r1]
      refine pr_iastore (36 * (n - ofN n) + k) 77 dX9_snap_76 rfl rfl (by rw [show (36 : Int32) = nI 36 from rfl, nI_mulN, nI_add]) (by omega) rfl ?_
      refine pr_iinc 80 dX9_snap_77 rfl (by first | exact pm_inc _ | rfl) (pm_st_1 rfl rfl) rfl ?_
      refine pr_goto 51 dX9_snap_80 rfl ?_
      refine ih (k + 1) _ (by omega) (f1.uI ⟨by simp, rfl⟩) (fun z hz => by rw [pm_gIn (by simp)]; exact d1 z hz) (by rw [pm_gIn (by simp)]; exact s1) (fun j q hj hq => ?_) (fun q hq => ?_)
      · rw [pm_gIn (fun y => by have := y.2.2; omega)]
        exact q1 j q hj hq
      · by_cases z : q = k
        · subst z; rw [pm_gIe]
        · rw [pm_gIn (fun y => z (by have := y.2.2; omega))]
          exact q2 q (by omega)
  have lp1 : n = 12 → ∀ i k mem, k + i = 396 → pm_fr sMS mem0 mem → mem.1 10009909 0 = mem0.1 10009909 0 → (∀ q, q < k → mem.1 20432373 0 q = mem0.1 20432373 0 (q + 36)) → (∀ q, k ≤ q → mem.1 20432373 0 q = mem0.1 20432373 0 q) → PR cX9_snap RX9 2 0 0 11 [some (pR 10009909 0), some (pI (nI k))] [] mem (pm_RX cX9_snap none (fun r mem => r = none ∧ pm_fr sMS mem0 mem ∧ mdN mem0 mem ∧ mem.1 10009909 0 14 = nI (n - ofN n + 1) ∧ ∀ j k, j < n - ofN n + 1 → k < 36 → mem.1 20432373 0 (36 * j + k) = cdI k (S (j + ofN n) k))) := by
    intro en i
    have eo : ofN n = 1 := by rw [ofN, if_pos en]
    induction i with
    | zero =>
      intro k mem hi f1 d1 q1 q2
      have e : k = 396 := by omega
      subst e
      refine pr_iload_n 12 dX9_snap_11 rfl rfl rfl ?_
      refine pr_sipush (396) 15 dX9_snap_12 (by decide) rfl ?_
      refine pr_icmp_ge 39 18 dX9_snap_15 rfl rfl (fun c_15 => ?_) (fun c_15 => absurd (by decide) (c_15))
      refine pr_aload_n 40 dX9_snap_39 rfl rfl rfl ?_
      refine pr_dup rfl 41 dX9_snap_40 rfl ?_
      refine pr_getI 44 dX9_snap_41 fX9_167 rfl ?_
      rw [d1, hH.1, show nI n = nI 12 by rw [en]]
      refine pr_iconst (1) 45 dX9_snap_44 (by decide) rfl ?_
      refine pr_isub 46 dX9_snap_45 rfl ?_
      rw [nI_pred]
      refine pr_putI 49 dX9_snap_46 fX9_167 rfl ?_
      refine pr_iconst (0) 50 dX9_snap_49 (by decide) rfl ?_
      refine pr_istore_n 51 dX9_snap_50 rfl (pm_st_1 rfl rfl) rfl ?_
      refine lp2 36 0 (pm_uI mem 10009909 0 14 (nI 11)) (by omega) (f1.uI ⟨by simp, rfl⟩) (fun z hz => by rw [pm_gIn (fun y => hz y.2.2), d1]) (by rw [pm_gIe, eo, en]) (fun j q hj hq => ?_) (fun q hq => absurd hq (Nat.not_lt_zero _))
      rw [pm_gIn (by simp), q1 _ (by omega), eo, show 36 * j + q + 36 = 36 * (j + 1) + q by omega]
      exact hH.2 (j + 1) q (by omega) hq
    | succ i ih =>
      intro k mem hi f1 d1 q1 q2
      refine pr_iload_n 12 dX9_snap_11 rfl rfl rfl ?_
      refine pr_sipush (396) 15 dX9_snap_12 (by decide) rfl ?_
      refine pr_icmp_ge 39 18 dX9_snap_15 rfl rfl (fun c_15 => absurd (c_15) (nI_ge (b := 396) (by omega) (by omega))) (fun c_15 => ?_)
      refine pr_aload_n 19 dX9_snap_18 rfl rfl rfl ?_
      refine pr_getR0 22 dX9_snap_19 fX9_70 rfl ?_
      refine pr_iload_n 23 dX9_snap_22 rfl rfl rfl ?_
      refine pr_aload_n 24 dX9_snap_23 rfl rfl rfl ?_
      refine pr_getR0 27 dX9_snap_24 fX9_70 rfl ?_
      refine pr_iload_n 28 dX9_snap_27 rfl rfl rfl ?_
      refine pr_bipush (36) 30 dX9_snap_28 (by decide) rfl ?_
      refine pr_iadd 31 dX9_snap_30 rfl ?_
      refine pr_iaload (k + 36) 32 dX9_snap_31 rfl rfl (nI_add k 36) (by omega) rfl ?_
      rw [q2 (k + 36) (by omega)]
      refine pr_iastore k 33 dX9_snap_32 rfl rfl rfl (by omega) rfl ?_
      refine pr_iinc 36 dX9_snap_33 rfl (by first | exact pm_inc _ | rfl) (pm_st_1 rfl rfl) rfl ?_
      refine pr_goto 11 dX9_snap_36 rfl ?_
      refine ih (k + 1) _ (by omega) (f1.uI ⟨by simp, rfl⟩) (by funext z; rw [pm_gIn (by simp), d1]) (fun q hq => ?_) (fun q hq => ?_)
      · by_cases z : q = k
        · subst z; rw [pm_gIe]
        · rw [pm_gIn (fun y => z y.2.2)]
          exact q1 q (by omega)
      · rw [pm_gIn (fun y => by have := y.2.2; omega)]
        exact q2 q (by omega)
  refine Cl.of (own := RX9) rfl rfl (Nat.le_of_ble_eq_true rfl) rfl ?_; show PR _ _ _ _ _ _ [some _, none] _ _ _
  by_cases en : n = 12
  · refine pr_aload_n 1 dX9_snap_0 rfl rfl rfl ?_
    refine pr_getI 4 dX9_snap_1 fX9_167 rfl ?_
    rw [hH.1]
    refine pr_bipush (12) 6 dX9_snap_4 (by decide) rfl ?_
    refine pr_icmp_ne 49 9 dX9_snap_6 rfl rfl (fun c_6 => absurd (by rw [en]; rfl) (c_6)) (fun c_6 => ?_)
    refine pr_iconst (0) 10 dX9_snap_9 (by decide) rfl ?_
    refine pr_istore_n 11 dX9_snap_10 rfl (pm_st_1 rfl rfl) rfl ?_
    exact lp1 en 396 0 mem0 (by omega) pm_fr.rf rfl (fun q hq => absurd hq (Nat.not_lt_zero _)) (fun q _ => rfl)
  · have eo : ofN n = 0 := by rw [ofN, if_neg en]
    refine pr_aload_n 1 dX9_snap_0 rfl rfl rfl ?_
    refine pr_getI 4 dX9_snap_1 fX9_167 rfl ?_
    rw [hH.1]
    refine pr_bipush (12) 6 dX9_snap_4 (by decide) rfl ?_
    refine pr_icmp_ne 49 9 dX9_snap_6 rfl rfl (fun c_6 => ?_) (fun c_6 => absurd (c_6) (fun z => en ((nI_eq (b := 12) (by omega) (by omega)).mp z)))
    refine pr_iconst (0) 50 dX9_snap_49 (by decide) rfl ?_
    refine pr_istore_n 51 dX9_snap_50 rfl (pm_st_1 rfl rfl) rfl ?_
    exact lp2 36 0 mem0 (by omega) pm_fr.rf (fun _ _ => rfl) (by rw [eo]; exact hH.1) (fun j q hj hq => by rw [eo]; exact hH.2 j q (by omega) hq) (fun q hq => absurd hq (Nat.not_lt_zero _))
theorem cdI_inj {p a b : Nat} (ha : a ≤ 10000) (hb : b ≤ 10000) (h : cdI p a = cdI p b) : a = b := by
  unfold cdI at h
  split at h
  · exact Int32_m1 (by omega) (by omega) h
  · exact (nI_eq (by omega) (by omega)).mp h
def tmQ (m0 : pm_M) (K : Nat → Nat) (n : Nat) (S : Nat → Nat → Nat) (o : gO) : Option pm_v → pm_M → Prop := fun r mem => r = some (pI (anC K o)) ∧ pm_fr sMU m0 mem ∧ mdN m0 mem ∧ MI mem (nxK K o) (nxN K n o) (nxS K n S o)
set_option maxRecDepth 100000 in
theorem sp_X9_tells (h : MI mem0 K n S) {p v : Nat} (hp : p < 36) (hKp : K p ≤ 10000) (hv : v ≤ 10000) (hW' : WF (up K p v)) (hZ' : WZ (up K p v)) : Cl yX9_tells cX9_tells 4 (some .int) 1 21 [pR 10009909 0, pI (nI p), pI (cdI p v)] mem0 (tmQ mem0 K n S (some (p, v))) := by
  obtain ⟨hr, hH, hHW⟩ := h
  refine Cl.of (own := RX9) rfl rfl (Nat.le_of_ble_eq_true rfl) rfl ?_; show PR _ _ _ _ _ _ [some _, some _, some _, none] _ _ _
  by_cases e : K p = v
  · refine pr_aload_n 1 dX9_tells_0 rfl rfl rfl ?_
    refine pr_getR0 4 dX9_tells_1 fX9_64 rfl ?_
    refine pr_iload_n 5 dX9_tells_4 rfl rfl rfl ?_
    refine pr_iaload p 6 dX9_tells_5 rfl rfl rfl (by omega) rfl ?_
    rw [hr.cd hp]
    refine pr_iload_n 7 dX9_tells_6 rfl rfl rfl ?_
    refine pr_icmp_ne 13 10 dX9_tells_7 rfl rfl (fun c_7 => absurd (by rw [e]) (c_7)) (fun c_7 => ?_)
    refine pr_bipush (-2) 12 dX9_tells_10 (by decide) rfl ?_
    refine pr_ireturn dX9_tells_12 rfl ?_
    have hc : isC K (some (p, v)) = false := by simp [isC, e]
    refine ⟨by rw [anC, if_pos e], pm_fr.rf, fun _ _ => rfl, ?_⟩
    rw [nxK, if_pos e, nxN, nxS, hc]
    exact ⟨hr, hH, hHW⟩
  · refine pr_aload_n 1 dX9_tells_0 rfl rfl rfl ?_
    refine pr_getR0 4 dX9_tells_1 fX9_64 rfl ?_
    refine pr_iload_n 5 dX9_tells_4 rfl rfl rfl ?_
    refine pr_iaload p 6 dX9_tells_5 rfl rfl rfl (by omega) rfl ?_
    rw [hr.cd hp]
    refine pr_iload_n 7 dX9_tells_6 rfl rfl rfl ?_
    refine pr_icmp_ne 13 10 dX9_tells_7 rfl rfl (fun c_7 => ?_) (fun c_7 => absurd (c_7) (fun z => e (cdI_inj hKp hv z)))
    refine pr_aload_n 14 dX9_tells_13 rfl rfl rfl ?_
    refine pr_inv0R0 17 dX9_tells_14 vX9_271 mX9_snap (sp_X9_snap hr hH hHW.1 hHW.2.1) ⟨Nat.le_of_ble_eq_true rfl, Nat.le_of_ble_eq_true rfl⟩ (Nat.le_of_ble_eq_true rfl) rfl (fun mem1 s1 => ?_)
    obtain ⟨f1, d1, s1, q1⟩ := s1
    have r1 := hr.fr f1 (by simp [sMS])
    refine pr_aload_n 18 dX9_tells_17 rfl rfl rfl ?_
    refine pr_getR0 21 dX9_tells_18 fX9_64 rfl ?_
    refine pr_iload_n 22 dX9_tells_21 rfl rfl rfl ?_
    refine pr_iaload p 23 dX9_tells_22 rfl rfl rfl (by omega) rfl ?_
    rw [r1.cd hp]
    refine pr_istore_n 24 dX9_tells_23 rfl (pm_st_3 rfl rfl) rfl ?_
    refine pr_aload_n 25 dX9_tells_24 rfl rfl rfl ?_
    refine pr_getR0 28 dX9_tells_25 fX9_64 rfl ?_
    refine pr_iload_n 29 dX9_tells_28 rfl rfl rfl ?_
    refine pr_iload_n 30 dX9_tells_29 rfl rfl rfl ?_
    refine pr_iastore p 31 dX9_tells_30 rfl rfl rfl (by omega) rfl ?_
    refine pr_iload_n 32 dX9_tells_31 rfl rfl rfl ?_
    refine pr_ireturn dX9_tells_32 rfl ?_
    have hc : isC K (some (p, v)) = true := by simp [isC, e]
    refine ⟨by rw [anC, if_neg e], (f1.mono (fun t i z => ⟨by have := z.1; simp at this ⊢; omega, z.2⟩)).uI ⟨by simp, rfl⟩, fun k hk => by rw [pm_gIn (by simp)]; exact d1 k hk, ?_⟩
    rw [nxN, nxS, hc, if_pos rfl, if_pos rfl, nxK, if_neg e]
    refine ⟨r1.ofcd (fun k hk => ?_) (fun k hk => by rw [pm_gIn (fun y => by have := y.2.2; omega)]) (up_eqB hp), ⟨by rw [pm_gIn (by simp)]; exact s1, fun j k hj hk => ?_⟩, hHW.keep hW' hZ'⟩
    · by_cases z : k = p
      · subst z; rw [pm_gIe, up, if_pos rfl]
      · rw [pm_gIn (fun y => z y.2.2), up, if_neg z]; exact r1.cd hk
    · rw [pm_gIn (by simp), shS, if_pos hj]
      exact q1 j k hj hk
def tmP (m0 : pm_M) (K : Nat → Nat) (n : Nat) (S : Nat → Nat → Nat) (o : gO) : Option pm_v → pm_M → Prop := fun r mem => r = some (pI (anC K o)) ∧ pm_fr sMU m0 mem ∧ mdH m0 mem ∧ mem.1 10009909 0 0 = 0 ∧ MI mem (nxK K o) (nxN K n o) (nxS K n S o)
theorem MI.q1 (h : MI mem0 K n S) {th : Int32} : MI (mq1 mem0 th) K n S := ⟨h.1.q1, ⟨by rw [pm_gIn (by simp)]; exact h.2.1.1, fun j k hj hk => by rw [pm_gIn (by simp)]; exact h.2.1.2 j k hj hk⟩, h.2.2⟩
theorem MI.wf (h : MI mem K n S) : WF K ∧ WZ K := by
  have := h.2.2.2.2 n (Nat.le_refl _)
  rwa [h.2.2.2.1] at this
theorem tmP.no (h : MI mem0 K n S) : tmP mem0 K n S none (some (pI (-2))) (mq1 mem0 0) := ⟨rfl, pm_fr.rf.uI ⟨by simp, rfl⟩, fun k hk _ => pm_gIn (fun y => hk y.2.2), pm_gIe, h.q1⟩
theorem tmP.so {o : gO} {r : Option pm_v} (h : tmQ (mq1 mem0 0) K n S o r mem) : tmP mem0 K n S o r mem := by
  obtain ⟨h1, h2, h3, h4⟩ := h
  refine ⟨h1, pm_fr.tr (pm_fr.rf.uI ⟨by simp, rfl⟩) h2, fun k a b => ?_, ?_, h4⟩
  · rw [h3 k b, pm_gIn (fun y => a y.2.2)]
  · rw [h3 _ (by decide), pm_gIe]
set_option maxRecDepth 100000 in
theorem sp_X9_fuel (h : MI mem0 K n S) (t v : Int32) : Cl yX9_fuel cX9_fuel 3 (some .int) 2 44 [pR 10009909 0, pI t, pI v] mem0 (tmP mem0 K n S (oF K t v)) := by
  obtain ⟨hW, hZ⟩ := h.wf
  have h16 := hW.2.2.2.2.1
  have hn16 := hW.2.2.2.1
  have h4 := hW.2.2.1
  have h1 : MI (mq1 mem0 0) K n S := h.q1
  refine Cl.of (own := RX9) rfl rfl (Nat.le_of_ble_eq_true rfl) rfl ?_; show PR _ _ _ _ _ _ [some _, some _, some _] _ _ _
  rcases ht : vix t (K 40) with _ | i
  · rw [show oF K t v = none by simp [oF, ht]]
    refine pr_aload_n 1 dX9_fuel_0 rfl rfl rfl ?_
    refine pr_iconst (0) 2 dX9_fuel_1 (by decide) rfl ?_
    refine pr_putI 5 dX9_fuel_2 fX9_1 rfl ?_
    refine pr_aload_n 6 dX9_fuel_5 rfl rfl rfl ?_
    refine pr_iload_n 7 dX9_fuel_6 rfl rfl rfl ?_
    refine pr_invD1 10 dX9_fuel_7 vX9_268 mX9_isTrip (sp_X9_isTrip h1.1 hW _) ⟨Nat.le_of_ble_eq_true rfl, Nat.le_of_ble_eq_true rfl⟩ (Nat.le_of_ble_eq_true rfl) rfl ?_
    refine pr_if_eq 35 13 dX9_fuel_10 rfl rfl (fun c_10 => ?_) (fun c_10 => absurd (vb_n ht) (c_10))
    refine pr_bipush (-2) 37 dX9_fuel_35 (by decide) rfl ?_
    refine pr_ireturn dX9_fuel_37 rfl ?_
    exact tmP.no h
  rcases hv : rvF v with _ | x
  · rw [show oF K t v = none by simp [oF, ht, hv]]
    rw [rvF_n] at hv
    refine pr_aload_n 1 dX9_fuel_0 rfl rfl rfl ?_
    refine pr_iconst (0) 2 dX9_fuel_1 (by decide) rfl ?_
    refine pr_putI 5 dX9_fuel_2 fX9_1 rfl ?_
    refine pr_aload_n 6 dX9_fuel_5 rfl rfl rfl ?_
    refine pr_iload_n 7 dX9_fuel_6 rfl rfl rfl ?_
    refine pr_invD1 10 dX9_fuel_7 vX9_268 mX9_isTrip (sp_X9_isTrip h1.1 hW _) ⟨Nat.le_of_ble_eq_true rfl, Nat.le_of_ble_eq_true rfl⟩ (Nat.le_of_ble_eq_true rfl) rfl ?_
    refine pr_if_eq 35 13 dX9_fuel_10 rfl rfl (fun c_10 => absurd (c_10) (vb_s ht)) (fun c_10 => ?_)
    refine pr_iload_n 14 dX9_fuel_13 rfl rfl rfl ?_
    refine pr_iconst (-1) 15 dX9_fuel_14 (by decide) rfl ?_
    refine pr_sipush (9999) 18 dX9_fuel_15 (by decide) rfl ?_
    refine pr_ivsD3 21 dX9_fuel_18 sX9_113 mX9_isIn (sp_X9_isIn _ _ _) ⟨Nat.le_of_ble_eq_true rfl, Nat.le_of_ble_eq_true rfl⟩ (Nat.le_of_ble_eq_true rfl) rfl ?_
    refine pr_if_eq 35 24 dX9_fuel_21 rfl rfl (fun c_21 => ?_) (fun c_21 => absurd (if_neg hv) (c_21))
    refine pr_bipush (-2) 37 dX9_fuel_35 (by decide) rfl ?_
    refine pr_ireturn dX9_fuel_37 rfl ?_
    exact tmP.no h
  rw [show oF K t v = some (4 + i, x) by simp [oF, ht, hv]]
  have hr : -1 ≤ v ∧ v ≤ 9999 := Decidable.byContradiction (fun z => by rw [rvF_n.mpr z] at hv; cases hv)
  have hx := rvF_some hv
  obtain ⟨rfl, hi⟩ := vix_some (by omega) ht
  have hb := (hW.2.2.2.2.2.2.2.2.1 i hi).1
  have hcall := (sp_X9_tells h1 (p := 4 + i) (v := x) (by omega) (by omega) (by omega) (WF_up hW (by omega) (by omega)) (WZ_up hZ (by omega) ⟨by omega, by omega, by omega⟩)).mono (fun _ _ => tmP.so)
  rw [cdI, if_pos (by omega), ← hx.1] at hcall
  refine pr_aload_n 1 dX9_fuel_0 rfl rfl rfl ?_
  refine pr_iconst (0) 2 dX9_fuel_1 (by decide) rfl ?_
  refine pr_putI 5 dX9_fuel_2 fX9_1 rfl ?_
  refine pr_aload_n 6 dX9_fuel_5 rfl rfl rfl ?_
  refine pr_iload_n 7 dX9_fuel_6 rfl rfl rfl ?_
  refine pr_invD1 10 dX9_fuel_7 vX9_268 mX9_isTrip (sp_X9_isTrip h1.1 hW _) ⟨Nat.le_of_ble_eq_true rfl, Nat.le_of_ble_eq_true rfl⟩ (Nat.le_of_ble_eq_true rfl) rfl ?_
  refine pr_if_eq 35 13 dX9_fuel_10 rfl rfl (fun c_10 => absurd (c_10) (vb_s ht)) (fun c_10 => ?_)
  refine pr_iload_n 14 dX9_fuel_13 rfl rfl rfl ?_
  refine pr_iconst (-1) 15 dX9_fuel_14 (by decide) rfl ?_
  refine pr_sipush (9999) 18 dX9_fuel_15 (by decide) rfl ?_
  refine pr_ivsD3 21 dX9_fuel_18 sX9_113 mX9_isIn (sp_X9_isIn _ _ _) ⟨Nat.le_of_ble_eq_true rfl, Nat.le_of_ble_eq_true rfl⟩ (Nat.le_of_ble_eq_true rfl) rfl ?_
  refine pr_if_eq 35 24 dX9_fuel_21 rfl rfl (fun c_21 => absurd (c_21) (by rw [if_pos hr]; decide)) (fun c_21 => ?_)
  refine pr_aload_n 25 dX9_fuel_24 rfl rfl rfl ?_
  refine pr_iconst (4) 26 dX9_fuel_25 (by decide) rfl ?_
  refine pr_iload_n 27 dX9_fuel_26 rfl rfl rfl ?_
  refine pr_iadd 28 dX9_fuel_27 rfl ?_
  rw [show (4 : Int32) + nI i = nI (4 + i) from nI_add 4 i]
  refine pr_iload_n 29 dX9_fuel_28 rfl rfl rfl ?_
  refine pr_invDR2 32 dX9_fuel_29 vX9_274 mX9_tells (hcall) ⟨Nat.le_of_ble_eq_true rfl, Nat.le_of_ble_eq_true rfl⟩ (Nat.le_of_ble_eq_true rfl) rfl (fun mem1 q1 => ?_)
  refine pr_goto 37 dX9_fuel_32 rfl ?_
  refine pr_ireturn dX9_fuel_37 rfl ?_
  exact ⟨rfl, q1⟩
set_option maxRecDepth 100000 in
theorem sp_X9_buy (h : MI mem0 K n S) (t v : Int32) : Cl yX9_buy cX9_buy 3 (some .int) 2 44 [pR 10009909 0, pI t, pI v] mem0 (tmP mem0 K n S (oB K t v)) := by
  obtain ⟨hW, hZ⟩ := h.wf
  have h16 := hW.2.2.2.2.1
  have hn16 := hW.2.2.2.1
  have h4 := hW.2.2.1
  have h1 : MI (mq1 mem0 0) K n S := h.q1
  refine Cl.of (own := RX9) rfl rfl (Nat.le_of_ble_eq_true rfl) rfl ?_; show PR _ _ _ _ _ _ [some _, some _, some _] _ _ _
  rcases ht : vix t (K 38) with _ | i
  · rw [show oB K t v = none by simp [oB, ht]]
    refine pr_aload_n 1 dX9_buy_0 rfl rfl rfl ?_
    refine pr_iconst (0) 2 dX9_buy_1 (by decide) rfl ?_
    refine pr_putI 5 dX9_buy_2 fX9_1 rfl ?_
    refine pr_aload_n 6 dX9_buy_5 rfl rfl rfl ?_
    refine pr_iload_n 7 dX9_buy_6 rfl rfl rfl ?_
    refine pr_invD1 10 dX9_buy_7 vX9_249 mX9_isTruck (sp_X9_isTruck h1.1 hW _) ⟨Nat.le_of_ble_eq_true rfl, Nat.le_of_ble_eq_true rfl⟩ (Nat.le_of_ble_eq_true rfl) rfl ?_
    refine pr_if_eq 35 13 dX9_buy_10 rfl rfl (fun c_10 => ?_) (fun c_10 => absurd (vb_n ht) (c_10))
    refine pr_bipush (-2) 37 dX9_buy_35 (by decide) rfl ?_
    refine pr_ireturn dX9_buy_37 rfl ?_
    exact tmP.no h
  rcases hv : rvB v with _ | x
  · rw [show oB K t v = none by simp [oB, ht, hv]]
    rw [rvB_n] at hv
    refine pr_aload_n 1 dX9_buy_0 rfl rfl rfl ?_
    refine pr_iconst (0) 2 dX9_buy_1 (by decide) rfl ?_
    refine pr_putI 5 dX9_buy_2 fX9_1 rfl ?_
    refine pr_aload_n 6 dX9_buy_5 rfl rfl rfl ?_
    refine pr_iload_n 7 dX9_buy_6 rfl rfl rfl ?_
    refine pr_invD1 10 dX9_buy_7 vX9_249 mX9_isTruck (sp_X9_isTruck h1.1 hW _) ⟨Nat.le_of_ble_eq_true rfl, Nat.le_of_ble_eq_true rfl⟩ (Nat.le_of_ble_eq_true rfl) rfl ?_
    refine pr_if_eq 35 13 dX9_buy_10 rfl rfl (fun c_10 => absurd (c_10) (vb_s ht)) (fun c_10 => ?_)
    refine pr_iload_n 14 dX9_buy_13 rfl rfl rfl ?_
    refine pr_iconst (0) 15 dX9_buy_14 (by decide) rfl ?_
    refine pr_sipush (9999) 18 dX9_buy_15 (by decide) rfl ?_
    refine pr_ivsD3 21 dX9_buy_18 sX9_113 mX9_isIn (sp_X9_isIn _ _ _) ⟨Nat.le_of_ble_eq_true rfl, Nat.le_of_ble_eq_true rfl⟩ (Nat.le_of_ble_eq_true rfl) rfl ?_
    refine pr_if_eq 35 24 dX9_buy_21 rfl rfl (fun c_21 => ?_) (fun c_21 => absurd (if_neg hv) (c_21))
    refine pr_bipush (-2) 37 dX9_buy_35 (by decide) rfl ?_
    refine pr_ireturn dX9_buy_37 rfl ?_
    exact tmP.no h
  rw [show oB K t v = some (i, x) by simp [oB, ht, hv]]
  have hr : 0 ≤ v ∧ v ≤ 9999 := Decidable.byContradiction (fun z => by rw [rvB_n.mpr z] at hv; cases hv)
  have hx := rvB_some hv
  obtain ⟨rfl, hi⟩ := vix_some (by omega) ht
  have hb := (hW.2.2.2.2.2.1 i (by omega)).1
  have hcall := (sp_X9_tells h1 (p := i) (v := x) (by omega) (by omega) (by omega) (WF_up hW (by omega) (by omega)) (WZ_up hZ (by omega) ⟨by omega, by omega, by omega⟩)).mono (fun _ _ => tmP.so)
  rw [cdI, if_neg (by omega), ← hx.1] at hcall
  refine pr_aload_n 1 dX9_buy_0 rfl rfl rfl ?_
  refine pr_iconst (0) 2 dX9_buy_1 (by decide) rfl ?_
  refine pr_putI 5 dX9_buy_2 fX9_1 rfl ?_
  refine pr_aload_n 6 dX9_buy_5 rfl rfl rfl ?_
  refine pr_iload_n 7 dX9_buy_6 rfl rfl rfl ?_
  refine pr_invD1 10 dX9_buy_7 vX9_249 mX9_isTruck (sp_X9_isTruck h1.1 hW _) ⟨Nat.le_of_ble_eq_true rfl, Nat.le_of_ble_eq_true rfl⟩ (Nat.le_of_ble_eq_true rfl) rfl ?_
  refine pr_if_eq 35 13 dX9_buy_10 rfl rfl (fun c_10 => absurd (c_10) (vb_s ht)) (fun c_10 => ?_)
  refine pr_iload_n 14 dX9_buy_13 rfl rfl rfl ?_
  refine pr_iconst (0) 15 dX9_buy_14 (by decide) rfl ?_
  refine pr_sipush (9999) 18 dX9_buy_15 (by decide) rfl ?_
  refine pr_ivsD3 21 dX9_buy_18 sX9_113 mX9_isIn (sp_X9_isIn _ _ _) ⟨Nat.le_of_ble_eq_true rfl, Nat.le_of_ble_eq_true rfl⟩ (Nat.le_of_ble_eq_true rfl) rfl ?_
  refine pr_if_eq 35 24 dX9_buy_21 rfl rfl (fun c_21 => absurd (c_21) (by rw [if_pos hr]; decide)) (fun c_21 => ?_)
  refine pr_aload_n 25 dX9_buy_24 rfl rfl rfl ?_
  refine pr_iconst (0) 26 dX9_buy_25 (by decide) rfl ?_
  refine pr_iload_n 27 dX9_buy_26 rfl rfl rfl ?_
  refine pr_iadd 28 dX9_buy_27 rfl ?_
  rw [show (0 : Int32) + nI i = nI i by simp]
  refine pr_iload_n 29 dX9_buy_28 rfl rfl rfl ?_
  refine pr_invDR2 32 dX9_buy_29 vX9_274 mX9_tells (hcall) ⟨Nat.le_of_ble_eq_true rfl, Nat.le_of_ble_eq_true rfl⟩ (Nat.le_of_ble_eq_true rfl) rfl (fun mem1 q1 => ?_)
  refine pr_goto 37 dX9_buy_32 rfl ?_
  refine pr_ireturn dX9_buy_37 rfl ?_
  exact ⟨rfl, q1⟩
set_option maxRecDepth 100000 in
theorem sp_X9_weigh (h : MI mem0 K n S) (t v : Int32) : Cl yX9_weigh cX9_weigh 3 (some .int) 2 44 [pR 10009909 0, pI t, pI v] mem0 (tmP mem0 K n S (oW K t v)) := by
  obtain ⟨hW, hZ⟩ := h.wf
  have h16 := hW.2.2.2.2.1
  have hn16 := hW.2.2.2.1
  have h4 := hW.2.2.1
  have h1 : MI (mq1 mem0 0) K n S := h.q1
  refine Cl.of (own := RX9) rfl rfl (Nat.le_of_ble_eq_true rfl) rfl ?_; show PR _ _ _ _ _ _ [some _, some _, some _] _ _ _
  rcases ht : vix t (K 39) with _ | i
  · rw [show oW K t v = none by simp [oW, ht]]
    refine pr_aload_n 1 dX9_weigh_0 rfl rfl rfl ?_
    refine pr_iconst (0) 2 dX9_weigh_1 (by decide) rfl ?_
    refine pr_putI 5 dX9_weigh_2 fX9_1 rfl ?_
    refine pr_aload_n 6 dX9_weigh_5 rfl rfl rfl ?_
    refine pr_iload_n 7 dX9_weigh_6 rfl rfl rfl ?_
    refine pr_invD1 10 dX9_weigh_7 vX9_256 mX9_isLoad (sp_X9_isLoad h1.1 hW _) ⟨Nat.le_of_ble_eq_true rfl, Nat.le_of_ble_eq_true rfl⟩ (Nat.le_of_ble_eq_true rfl) rfl ?_
    refine pr_if_eq 35 13 dX9_weigh_10 rfl rfl (fun c_10 => ?_) (fun c_10 => absurd (vb_n ht) (c_10))
    refine pr_bipush (-2) 37 dX9_weigh_35 (by decide) rfl ?_
    refine pr_ireturn dX9_weigh_37 rfl ?_
    exact tmP.no h
  rcases hv : rvW v with _ | x
  · rw [show oW K t v = none by simp [oW, ht, hv]]
    rw [rvW_n] at hv
    refine pr_aload_n 1 dX9_weigh_0 rfl rfl rfl ?_
    refine pr_iconst (0) 2 dX9_weigh_1 (by decide) rfl ?_
    refine pr_putI 5 dX9_weigh_2 fX9_1 rfl ?_
    refine pr_aload_n 6 dX9_weigh_5 rfl rfl rfl ?_
    refine pr_iload_n 7 dX9_weigh_6 rfl rfl rfl ?_
    refine pr_invD1 10 dX9_weigh_7 vX9_256 mX9_isLoad (sp_X9_isLoad h1.1 hW _) ⟨Nat.le_of_ble_eq_true rfl, Nat.le_of_ble_eq_true rfl⟩ (Nat.le_of_ble_eq_true rfl) rfl ?_
    refine pr_if_eq 35 13 dX9_weigh_10 rfl rfl (fun c_10 => absurd (c_10) (vb_s ht)) (fun c_10 => ?_)
    refine pr_iload_n 14 dX9_weigh_13 rfl rfl rfl ?_
    refine pr_iconst (1) 15 dX9_weigh_14 (by decide) rfl ?_
    refine pr_bipush (99) 17 dX9_weigh_15 (by decide) rfl ?_
    refine pr_ivsD3 20 dX9_weigh_17 sX9_113 mX9_isIn (sp_X9_isIn _ _ _) ⟨Nat.le_of_ble_eq_true rfl, Nat.le_of_ble_eq_true rfl⟩ (Nat.le_of_ble_eq_true rfl) rfl ?_
    refine pr_if_eq 35 23 dX9_weigh_20 rfl rfl (fun c_20 => ?_) (fun c_20 => absurd (if_neg hv) (c_20))
    refine pr_bipush (-2) 37 dX9_weigh_35 (by decide) rfl ?_
    refine pr_ireturn dX9_weigh_37 rfl ?_
    exact tmP.no h
  rw [show oW K t v = some (20 + i, x) by simp [oW, ht, hv]]
  have hr : 1 ≤ v ∧ v ≤ 99 := Decidable.byContradiction (fun z => by rw [rvW_n.mpr z] at hv; cases hv)
  have hx := rvW_some hv
  obtain ⟨rfl, hi⟩ := vix_some (by omega) ht
  have hb := (hW.2.2.2.2.2.2.2.1 i hi).1
  have hcall := (sp_X9_tells h1 (p := 20 + i) (v := x) (by omega) (by omega) (by omega) (WF_up hW (by omega) (by omega)) (WZ_up hZ (by omega) ⟨by omega, by omega, by omega⟩)).mono (fun _ _ => tmP.so)
  rw [cdI, if_neg (by omega), ← hx.1] at hcall
  refine pr_aload_n 1 dX9_weigh_0 rfl rfl rfl ?_
  refine pr_iconst (0) 2 dX9_weigh_1 (by decide) rfl ?_
  refine pr_putI 5 dX9_weigh_2 fX9_1 rfl ?_
  refine pr_aload_n 6 dX9_weigh_5 rfl rfl rfl ?_
  refine pr_iload_n 7 dX9_weigh_6 rfl rfl rfl ?_
  refine pr_invD1 10 dX9_weigh_7 vX9_256 mX9_isLoad (sp_X9_isLoad h1.1 hW _) ⟨Nat.le_of_ble_eq_true rfl, Nat.le_of_ble_eq_true rfl⟩ (Nat.le_of_ble_eq_true rfl) rfl ?_
  refine pr_if_eq 35 13 dX9_weigh_10 rfl rfl (fun c_10 => absurd (c_10) (vb_s ht)) (fun c_10 => ?_)
  refine pr_iload_n 14 dX9_weigh_13 rfl rfl rfl ?_
  refine pr_iconst (1) 15 dX9_weigh_14 (by decide) rfl ?_
  refine pr_bipush (99) 17 dX9_weigh_15 (by decide) rfl ?_
  refine pr_ivsD3 20 dX9_weigh_17 sX9_113 mX9_isIn (sp_X9_isIn _ _ _) ⟨Nat.le_of_ble_eq_true rfl, Nat.le_of_ble_eq_true rfl⟩ (Nat.le_of_ble_eq_true rfl) rfl ?_
  refine pr_if_eq 35 23 dX9_weigh_20 rfl rfl (fun c_20 => absurd (c_20) (by rw [if_pos hr]; decide)) (fun c_20 => ?_)
  refine pr_aload_n 24 dX9_weigh_23 rfl rfl rfl ?_
  refine pr_bipush (20) 26 dX9_weigh_24 (by decide) rfl ?_
  refine pr_iload_n 27 dX9_weigh_26 rfl rfl rfl ?_
  refine pr_iadd 28 dX9_weigh_27 rfl ?_
  rw [show (20 : Int32) + nI i = nI (20 + i) from nI_add 20 i]
  refine pr_iload_n 29 dX9_weigh_28 rfl rfl rfl ?_
  refine pr_invDR2 32 dX9_weigh_29 vX9_274 mX9_tells (hcall) ⟨Nat.le_of_ble_eq_true rfl, Nat.le_of_ble_eq_true rfl⟩ (Nat.le_of_ble_eq_true rfl) rfl (fun mem1 q1 => ?_)
  refine pr_goto 37 dX9_weigh_32 rfl ?_
  refine pr_ireturn dX9_weigh_37 rfl ?_
  exact ⟨rfl, q1⟩
def umP (m0 : pm_M) (n : Nat) (S : Nat → Nat → Nat) : Option pm_v → pm_M → Prop := fun r mem => r = some (pI (unA n)) ∧ pm_fr sMU m0 mem ∧ mdH m0 mem ∧ mem.1 10009909 0 0 = 0 ∧ MI mem (S (n - 1)) (n - 1) S
set_option maxRecDepth 100000 in
theorem sp_X9_undo (h : MI mem0 K n S) (hB : ∀ j, j + 1 = n → eqB K (S j)) : Cl yX9_undo cX9_undo 2 (some .int) 0 0 [pR 10009909 0] mem0 (umP mem0 n S) := by
  have h1 : MI (mq1 mem0 0) K n S := h.q1
  obtain ⟨hr, hH, hHW⟩ := h1
  have hn := hHW.1
  refine Cl.of (own := RX9) rfl rfl (Nat.le_of_ble_eq_true rfl) rfl ?_; show PR _ _ _ _ _ _ [some _, none] _ _ _
  rcases n with _ | n
  · refine pr_aload_n 1 dX9_undo_0 rfl rfl rfl ?_
    refine pr_iconst (0) 2 dX9_undo_1 (by decide) rfl ?_
    refine pr_putI 5 dX9_undo_2 fX9_1 rfl ?_
    refine pr_aload_n 6 dX9_undo_5 rfl rfl rfl ?_
    refine pr_getI 9 dX9_undo_6 fX9_167 rfl ?_
    rw [hH.1]
    refine pr_if_ne 14 12 dX9_undo_9 rfl rfl (fun c_9 => absurd (rfl) (c_9)) (fun c_9 => ?_)
    refine pr_iconst (-1) 13 dX9_undo_12 (by decide) rfl ?_
    refine pr_ireturn dX9_undo_13 rfl ?_
    refine ⟨rfl, pm_fr.rf.uI ⟨by simp, rfl⟩, fun k hk _ => pm_gIn (fun y => hk y.2.2), pm_gIe, ?_⟩
    rw [show S (0 - 1) = K from hHW.2.1]
    exact ⟨hr, hH, hHW⟩
  have hB := hB n rfl
  have lp : ∀ i k mem, k + i = 36 → pm_fr sMU mem0 mem → mdH mem0 mem → mem.1 10009909 0 0 = 0 → mem.1 10009909 0 14 = nI n → mem.1 20432373 0 = mem0.1 20432373 0 → (∀ q, q < k → mem.1 20869371 0 q = cdI q (S n q)) → (∀ q, 36 ≤ q → mem.1 20869371 0 q = mem0.1 20869371 0 q) → PR cX9_undo RX9 2 0 0 26 [some (pR 10009909 0), some (pI (nI k))] [] mem (pm_RX cX9_undo (some .int) (umP mem0 (n + 1) S)) := by
    intro i
    induction i with
    | zero =>
      intro k mem hi f1 d1 t1 s1 e1 q1 q2
      have e : k = 36 := by omega
      subst e
      refine pr_iload_n 27 dX9_undo_26 rfl rfl rfl ?_
      refine pr_bipush (36) 29 dX9_undo_27 (by decide) rfl ?_
      refine pr_icmp_ge 58 32 dX9_undo_29 rfl rfl (fun c_29 => ?_) (fun c_29 => absurd (by decide) (c_29))
      refine pr_aload_n 59 dX9_undo_58 rfl rfl rfl ?_
      refine pr_getI 62 dX9_undo_59 fX9_167 rfl ?_
      rw [s1]
      refine pr_ireturn dX9_undo_62 rfl ?_
      refine ⟨rfl, f1, d1, t1, h.1.ofcd q1 q2 hB, ⟨s1, fun j k hj hk => ?_⟩, by omega, rfl, fun j hj => hHW.2.2 j (by omega)⟩
      rw [e1]
      exact h.2.1.2 j k (by omega) hk
    | succ i ih =>
      intro k mem hi f1 d1 t1 s1 e1 q1 q2
      refine pr_iload_n 27 dX9_undo_26 rfl rfl rfl ?_
      refine pr_bipush (36) 29 dX9_undo_27 (by decide) rfl ?_
      refine pr_icmp_ge 58 32 dX9_undo_29 rfl rfl (fun c_29 => absurd (c_29) (nI_ge (b := 36) (by omega) (by omega))) (fun c_29 => ?_)
      refine pr_aload_n 33 dX9_undo_32 rfl rfl rfl ?_
      refine pr_getR0 36 dX9_undo_33 fX9_64 rfl ?_
      refine pr_iload_n 37 dX9_undo_36 rfl rfl rfl ?_
      refine pr_aload_n 38 dX9_undo_37 rfl rfl rfl ?_
      refine pr_getR0 41 dX9_undo_38 fX9_70 rfl ?_
      refine pr_bipush (36) 43 dX9_undo_41 (by decide) rfl ?_
      refine pr_aload_n 44 dX9_undo_43 rfl rfl rfl ?_
      refine pr_getI 47 dX9_undo_44 fX9_167 rfl ?_
      rw [s1]
      refine pr_imul 48 dX9_undo_47 rfl ?_
      refine pr_iload_n 49 dX9_undo_48 rfl rfl rfl ?_
      refine pr_iadd 50 dX9_undo_49 rfl ?_
      refine pr_iaload (36 * n + k) 51 dX9_undo_50 rfl rfl (by rw [show (36 : Int32) = nI 36 from rfl, nI_mulN, nI_add]) (by omega) rfl ?_
      rw [e1, h.2.1.2 n k (by omega) (by omega)]
      refine pr_iastore k 52 dX9_undo_51 rfl rfl rfl (by omega) rfl ?_
      refine pr_iinc 55 dX9_undo_52 rfl (by first | exact pm_inc _ | rfl) (pm_st_1 rfl rfl) rfl ?_
      refine pr_goto 26 dX9_undo_55 rfl ?_
      refine ih (k + 1) _ (by omega) (f1.uI ⟨by simp, rfl⟩) (fun z a b => by rw [pm_gIn (by simp)]; exact d1 z a b) (by rw [pm_gIn (by simp)]; exact t1) (by rw [pm_gIn (by simp)]; exact s1) (by funext z; rw [pm_gIn (by simp), e1]) (fun q hq => ?_) (fun q hq => ?_)
      · by_cases z : q = k
        · subst z; rw [pm_gIe]
        · rw [pm_gIn (fun y => z y.2.2)]; exact q1 q (by omega)
      · rw [pm_gIn (fun y => by have := y.2.2; omega)]
        exact q2 q hq
  refine pr_aload_n 1 dX9_undo_0 rfl rfl rfl ?_
  refine pr_iconst (0) 2 dX9_undo_1 (by decide) rfl ?_
  refine pr_putI 5 dX9_undo_2 fX9_1 rfl ?_
  refine pr_aload_n 6 dX9_undo_5 rfl rfl rfl ?_
  refine pr_getI 9 dX9_undo_6 fX9_167 rfl ?_
  rw [hH.1]
  refine pr_if_ne 14 12 dX9_undo_9 rfl rfl (fun c_9 => ?_) (fun c_9 => absurd (c_9) (nI_ne0 (by omega) (by omega)))
  refine pr_aload_n 15 dX9_undo_14 rfl rfl rfl ?_
  refine pr_dup rfl 16 dX9_undo_15 rfl ?_
  refine pr_getI 19 dX9_undo_16 fX9_167 rfl ?_
  rw [hH.1]
  refine pr_iconst (1) 20 dX9_undo_19 (by decide) rfl ?_
  refine pr_isub 21 dX9_undo_20 rfl ?_
  rw [nI_pred]
  refine pr_putI 24 dX9_undo_21 fX9_167 rfl ?_
  refine pr_iconst (0) 25 dX9_undo_24 (by decide) rfl ?_
  refine pr_istore_n 26 dX9_undo_25 rfl (pm_st_1 rfl rfl) rfl ?_
  refine lp 36 0 _ (by omega) ((pm_fr.rf.uI ⟨by simp, rfl⟩).uI ⟨by simp, rfl⟩) (fun z a b => by rw [pm_gIn (fun y => b y.2.2), pm_gIn (fun y => a y.2.2)]) (by rw [pm_gIn (by simp), pm_gIe]) pm_gIe (by funext z; rw [pm_gIn (by simp), pm_gIn (by simp)]) (fun q hq => absurd hq (Nat.not_lt_zero _)) (fun q _ => by rw [pm_gIn (by simp), pm_gIn (by simp)])
end MTL
