/-! told anew: the mathematics, History -/
def up (K : Nat → Nat) (p v : Nat) : Nat → Nat := fun k => if k = p then v else K k
/-- a number of a row as the programs hold it -/
def cdI (k x : Nat) : Int32 := if 4 ≤ k ∧ k < 20 then nI x - 1 else nI x
def hkd (p : Nat) : Nat := if p < 4 then 1 else if p < 20 then 0 else 2
def hix (p : Nat) : Nat := if p < 4 then p else if p < 20 then p - 4 else p - 20
def pok (K : Nat → Nat) (p : Nat) : Prop := (p < 4 → p < K 38) ∧ (4 ≤ p → p < 20 → p - 4 < K 40) ∧ (20 ≤ p → p < 36 ∧ p - 20 < K 39)
def ofN (n : Nat) : Nat := if n = 12 then 1 else 0
def shS (n : Nat) (S : Nat → Nat → Nat) (K' : Nat → Nat) : Nat → Nat → Nat := fun j => if j < n - ofN n + 1 then S (j + ofN n) else K'
/-- the states that can be come back to -/
def HW (n : Nat) (S : Nat → Nat → Nat) (K : Nat → Nat) : Prop := n ≤ 12 ∧ S n = K ∧ ∀ j, j ≤ n → WF (S j) ∧ WZ (S j)
def eqB (K K' : Nat → Nat) : Prop := ∀ k, 36 ≤ k → K' k = K k
theorem up_eqB {K : Nat → Nat} {p v : Nat} (hp : p < 36) : eqB K (up K p v) := fun k hk => by rw [up, if_neg (by omega)]
theorem up_back {K : Nat → Nat} {p v : Nat} : up (up K p v) p (K p) = K := by
  funext k
  unfold up
  by_cases z : k = p
  · rw [if_pos z, z]
  · rw [if_neg z, if_neg z]
section EQB
variable {K K' : Nat → Nat}
theorem dd_B (h : eqB K K') (a b : Nat) : dd K' a b = dd K a b := by
  unfold dd
  rw [h _ (by omega), h _ (by omega), h _ (by omega), h _ (by omega)]
theorem bit_B (h : eqB K K') (t l : Nat) : bit K' t l = bit K t l := by unfold bit; rw [h _ (by omega)]
theorem lt_B (h : eqB K K') (k : Nat) : ∀ t, lt K' k t = lt K k t
  | 0 => rfl
  | t + 1 => by rw [lt, lt, lt_B h k t, h _ (by omega), h _ (by omega)]
theorem lo_B (h : eqB K K') (l : Nat) : ∀ t, lo K' l t = lo K l t
  | 0 => rfl
  | t + 1 => by rw [lo, lo, lo_B h l t, h _ (by omega), bit_B h]
theorem gk_B (h : eqB K K') (k : Nat) : ∀ t, gk K' k t = gk K k t
  | 0 => rfl
  | t + 1 => by rw [gk, gk, gk_B h k t, lt_B h, h _ (by omega), h _ (by omega)]
theorem gl_B (h : eqB K K') (l : Nat) : ∀ t, gl K' l t = gl K l t
  | 0 => rfl
  | t + 1 => by rw [gl, gl, gl_B h l t, lo_B h, h _ (by omega), h _ (by omega), bit_B h]
theorem gla_B (h : eqB K K') (l : Nat) : gla K' l = gla K l := by
  unfold gla
  rw [gl_B h, lo_B h, h 40 (by omega), h (69 + l) (by omega), h (85 + l) (by omega)]
theorem gks_B (h : eqB K K') : ∀ k, gks K' k = gks K k
  | 0 => rfl
  | k + 1 => by rw [gks, gks, gks_B h k, gk_B h, h 40 (by omega)]
theorem gls_B (h : eqB K K') : ∀ k, gls K' k = gls K k
  | 0 => rfl
  | k + 1 => by rw [gls, gls, gls_B h k, gla_B h]
theorem gps_B (h : eqB K K') : gps K' = gps K := by
  unfold gps
  rw [gks_B h, gls_B h, h 38 (by omega), h 39 (by omega)]
theorem ch_B (h : eqB K K') (l p : Nat) : ∀ t, ch K' l p t = ch K l p t
  | 0 => rfl
  | t + 1 => by rw [ch, ch, ch_B h l p t, lo_B h, h _ (by omega), bit_B h]
theorem gsm_B (h : eqB K K') : ∀ G, gsm K' G = gsm K G
  | [] => rfl
  | q :: r => by rw [gsm, gsm, gsm_B h r, dd_B h]
end EQB
section HIS
variable {mem mem0 : pm_M} {d : Nat} {K : Nat → Nat}
def sHi : Nat → Nat → Prop := fun t i => t ∈ [10001901, 20012040, 20012041, 20012042] ∧ i = 0
def entR (mem : pm_M) (j p v : Nat) : Prop := mem.1 20012040 0 j = nI (hkd p) ∧ mem.1 20012041 0 j = nI (hix p) ∧ mem.1 20012042 0 j = cdI p v
def histC (mem : pm_M) (n : Nat) (S : Nat → Nat → Nat) : Prop := mem.1 10001901 0 3 = nI n ∧ ∀ j, j < n → ∃ p v, pok (S n) p ∧ entR mem j p v ∧ S j = up (S (j + 1)) p v
set_option maxRecDepth 100000 in
theorem sp_X1_forgetOldest : Cl yX1_forgetOldest cX1_forgetOldest 2 none 0 0 [pR 10001901 0] mem0 (fun r mem => r = none ∧ pm_fr sHi mem0 mem ∧ mem.1 10001901 0 3 = 11 ∧ ∀ j, j < 11 → mem.1 20012040 0 j = mem0.1 20012040 0 (j + 1) ∧ mem.1 20012041 0 j = mem0.1 20012041 0 (j + 1) ∧ mem.1 20012042 0 j = mem0.1 20012042 0 (j + 1)) := by
  have lp : ∀ i k mem, k + i = 11 → pm_fr sHi mem0 mem → (∀ j, j < k → mem.1 20012040 0 j = mem0.1 20012040 0 (j + 1) ∧ mem.1 20012041 0 j = mem0.1 20012041 0 (j + 1) ∧ mem.1 20012042 0 j = mem0.1 20012042 0 (j + 1)) → (∀ j, k < j → mem.1 20012040 0 j = mem0.1 20012040 0 j ∧ mem.1 20012041 0 j = mem0.1 20012041 0 j ∧ mem.1 20012042 0 j = mem0.1 20012042 0 j) → PR cX1_forgetOldest RX1 2 0 0 2 [some (pR 10001901 0), some (pI (nI (k + 1)))] [] mem (pm_RX cX1_forgetOldest none (fun r mem => r = none ∧ pm_fr sHi mem0 mem ∧ mem.1 10001901 0 3 = 11 ∧ ∀ j, j < 11 → mem.1 20012040 0 j = mem0.1 20012040 0 (j + 1) ∧ mem.1 20012041 0 j = mem0.1 20012041 0 (j + 1) ∧ mem.1 20012042 0 j = mem0.1 20012042 0 (j + 1))) := by
    intro i
    induction i with
    | zero =>
      intro k mem hj hf h1 h2
      have e : k = 11 := by omega
      subst e
      refine pr_iload_n 3 dX1_forgetOldest_2 rfl rfl rfl ?_
      refine pr_bipush (12) 5 dX1_forgetOldest_3 (by decide) rfl ?_
      refine pr_icmp_ge 56 8 dX1_forgetOldest_5 rfl rfl (fun c_5 => ?_) (fun c_5 => absurd (by decide) (c_5))
      refine pr_aload_n 57 dX1_forgetOldest_56 rfl rfl rfl ?_
      refine pr_bipush (11) 59 dX1_forgetOldest_57 (by decide) rfl ?_
      refine pr_putI 62 dX1_forgetOldest_59 fX1_21 rfl ?_
      refine pr_return dX1_forgetOldest_62 rfl ?_
      refine ⟨rfl, hf.uI ⟨by simp, rfl⟩, pm_gIe, fun j hj => ?_⟩
      rw [pm_gIn (by simp), pm_gIn (by simp), pm_gIn (by simp)]
      exact h1 j hj
    | succ i ih =>
      intro k mem hj hf h1 h2
      obtain ⟨b1, b2, b3⟩ := h2 (k + 1) (by omega)
      refine pr_iload_n 3 dX1_forgetOldest_2 rfl rfl rfl ?_
      refine pr_bipush (12) 5 dX1_forgetOldest_3 (by decide) rfl ?_
      refine pr_icmp_ge 56 8 dX1_forgetOldest_5 rfl rfl (fun c_5 => absurd (c_5) (nI_ge (b := 12) (by omega) (by omega))) (fun c_5 => ?_)
      refine pr_aload_n 9 dX1_forgetOldest_8 rfl rfl rfl ?_
      refine pr_getR0 12 dX1_forgetOldest_9 fX1_9 rfl ?_
      refine pr_iload_n 13 dX1_forgetOldest_12 rfl rfl rfl ?_
      refine pr_iconst (1) 14 dX1_forgetOldest_13 (by decide) rfl ?_
      refine pr_isub 15 dX1_forgetOldest_14 rfl ?_
      rw [nI_pred]
      refine pr_aload_n 16 dX1_forgetOldest_15 rfl rfl rfl ?_
      refine pr_getR0 19 dX1_forgetOldest_16 fX1_9 rfl ?_
      refine pr_iload_n 20 dX1_forgetOldest_19 rfl rfl rfl ?_
      refine pr_iaload (k + 1) 21 dX1_forgetOldest_20 rfl rfl rfl (by omega) rfl ?_
      rw [b1]
      refine pr_iastore k 22 dX1_forgetOldest_21 rfl rfl rfl (by omega) rfl ?_
      refine pr_aload_n 23 dX1_forgetOldest_22 rfl rfl rfl ?_
      refine pr_getR0 26 dX1_forgetOldest_23 fX1_15 rfl ?_
      refine pr_iload_n 27 dX1_forgetOldest_26 rfl rfl rfl ?_
      refine pr_iconst (1) 28 dX1_forgetOldest_27 (by decide) rfl ?_
      refine pr_isub 29 dX1_forgetOldest_28 rfl ?_
      rw [nI_pred]
      refine pr_aload_n 30 dX1_forgetOldest_29 rfl rfl rfl ?_
      refine pr_getR0 33 dX1_forgetOldest_30 fX1_15 rfl ?_
      refine pr_iload_n 34 dX1_forgetOldest_33 rfl rfl rfl ?_
      refine pr_iaload (k + 1) 35 dX1_forgetOldest_34 rfl rfl rfl (by omega) rfl ?_
      rw [pm_gIn (by simp), b2]
      refine pr_iastore k 36 dX1_forgetOldest_35 rfl rfl rfl (by omega) rfl ?_
      refine pr_aload_n 37 dX1_forgetOldest_36 rfl rfl rfl ?_
      refine pr_getR0 40 dX1_forgetOldest_37 fX1_18 rfl ?_
      refine pr_iload_n 41 dX1_forgetOldest_40 rfl rfl rfl ?_
      refine pr_iconst (1) 42 dX1_forgetOldest_41 (by decide) rfl ?_
      refine pr_isub 43 dX1_forgetOldest_42 rfl ?_
      rw [nI_pred]
      refine pr_aload_n 44 dX1_forgetOldest_43 rfl rfl rfl ?_
      refine pr_getR0 47 dX1_forgetOldest_44 fX1_18 rfl ?_
      refine pr_iload_n 48 dX1_forgetOldest_47 rfl rfl rfl ?_
      refine pr_iaload (k + 1) 49 dX1_forgetOldest_48 rfl rfl rfl (by omega) rfl ?_
      rw [pm_gIn (by simp), pm_gIn (by simp), b3]
      refine pr_iastore k 50 dX1_forgetOldest_49 rfl rfl rfl (by omega) rfl ?_
      refine pr_iinc 53 dX1_forgetOldest_50 rfl (by first | exact pm_inc _ | rfl) (pm_st_1 rfl rfl) rfl ?_
      refine pr_goto 2 dX1_forgetOldest_53 rfl ?_
      refine ih (k + 1) _ (by omega) (((hf.uI ⟨by simp, rfl⟩).uI ⟨by simp, rfl⟩).uI ⟨by simp, rfl⟩) (fun j hj => ?_) (fun j hj => ?_)
      · by_cases z : j = k
        · subst z
          refine ⟨?_, ?_, ?_⟩
          · rw [pm_gIn (by simp), pm_gIn (by simp), pm_gIe]
          · rw [pm_gIn (by simp), pm_gIe]
          · rw [pm_gIe]
        · rw [pm_gIn (by simp), pm_gIn (by simp), pm_gIn (fun y => z y.2.2), pm_gIn (by simp), pm_gIn (fun y => z y.2.2), pm_gIn (by simp), pm_gIn (fun y => z y.2.2), pm_gIn (by simp), pm_gIn (by simp)]
          exact h1 j (by omega)
      · have z : ¬ j = k := by omega
        rw [pm_gIn (by simp), pm_gIn (by simp), pm_gIn (fun y => z y.2.2), pm_gIn (by simp), pm_gIn (fun y => z y.2.2), pm_gIn (by simp), pm_gIn (fun y => z y.2.2), pm_gIn (by simp), pm_gIn (by simp)]
        exact h2 j (by omega)
  refine Cl.of (own := RX1) rfl rfl (Nat.le_of_ble_eq_true rfl) rfl ?_; show PR _ _ _ _ _ _ [some _, none] _ _ _
  refine pr_iconst (1) 1 dX1_forgetOldest_0 (by decide) rfl ?_
  refine pr_istore_n 2 dX1_forgetOldest_1 rfl (pm_st_1 rfl rfl) rfl ?_
  exact lp 11 0 mem0 (by omega) pm_fr.rf (fun j hj => absurd hj (Nat.not_lt_zero _)) (fun j hj => ⟨rfl, rfl, rfl⟩)
def keepP (m0 : pm_M) (n : Nat) (a b c : Int32) : Option pm_v → pm_M → Prop := fun r mem => r = none ∧ pm_fr sHi m0 mem ∧ mem.1 10001901 0 3 = nI (n - ofN n + 1) ∧ (∀ j, j < n - ofN n → mem.1 20012040 0 j = m0.1 20012040 0 (j + ofN n) ∧ mem.1 20012041 0 j = m0.1 20012041 0 (j + ofN n) ∧ mem.1 20012042 0 j = m0.1 20012042 0 (j + ofN n)) ∧ mem.1 20012040 0 (n - ofN n) = a ∧ mem.1 20012041 0 (n - ofN n) = b ∧ mem.1 20012042 0 (n - ofN n) = c
set_option maxRecDepth 100000 in
theorem sp_X1_keep {n : Nat} (hn : n ≤ 12) (hc : mem0.1 10001901 0 3 = nI n) (a b c : Int32) : Cl yX1_keep cX1_keep 4 none 1 21 [pR 10001901 0, pI a, pI b, pI c] mem0 (keepP mem0 n a b c) := by
  have rest : ∀ mem m, m < 12 → m = n - ofN n → pm_fr sHi mem0 mem → mem.1 10001901 0 3 = nI m → (∀ j, j < m → mem.1 20012040 0 j = mem0.1 20012040 0 (j + ofN n) ∧ mem.1 20012041 0 j = mem0.1 20012041 0 (j + ofN n) ∧ mem.1 20012042 0 j = mem0.1 20012042 0 (j + ofN n)) → PR cX1_keep RX1 4 1 21 13 [some (pR 10001901 0), some (pI a), some (pI b), some (pI c)] [] mem (pm_RX cX1_keep none (keepP mem0 n a b c)) := by
    intro mem m hm em hf hc h1
    refine pr_aload_n 14 dX1_keep_13 rfl rfl rfl ?_
    refine pr_getI 17 dX1_keep_14 fX1_21 rfl ?_
    rw [hc]
    refine pr_if_lt 69 20 dX1_keep_17 rfl rfl (fun c_17 => absurd (c_17) (nI_pos (by omega))) (fun c_17 => ?_)
    refine pr_aload_n 21 dX1_keep_20 rfl rfl rfl ?_
    refine pr_getI 24 dX1_keep_21 fX1_21 rfl ?_
    rw [hc]
    refine pr_bipush (12) 26 dX1_keep_24 (by decide) rfl ?_
    refine pr_icmp_ge 69 29 dX1_keep_26 rfl rfl (fun c_26 => absurd (c_26) (nI_ge (b := 12) (by omega) (by omega))) (fun c_26 => ?_)
    refine pr_aload_n 30 dX1_keep_29 rfl rfl rfl ?_
    refine pr_getR0 33 dX1_keep_30 fX1_9 rfl ?_
    refine pr_aload_n 34 dX1_keep_33 rfl rfl rfl ?_
    refine pr_getI 37 dX1_keep_34 fX1_21 rfl ?_
    rw [hc]
    refine pr_iload_n 38 dX1_keep_37 rfl rfl rfl ?_
    refine pr_iastore m 39 dX1_keep_38 rfl rfl rfl (by omega) rfl ?_
    refine pr_aload_n 40 dX1_keep_39 rfl rfl rfl ?_
    refine pr_getR0 43 dX1_keep_40 fX1_15 rfl ?_
    refine pr_aload_n 44 dX1_keep_43 rfl rfl rfl ?_
    refine pr_getI 47 dX1_keep_44 fX1_21 rfl ?_
    rw [pm_gIn (by simp), hc]
    refine pr_iload_n 48 dX1_keep_47 rfl rfl rfl ?_
    refine pr_iastore m 49 dX1_keep_48 rfl rfl rfl (by omega) rfl ?_
    refine pr_aload_n 50 dX1_keep_49 rfl rfl rfl ?_
    refine pr_getR0 53 dX1_keep_50 fX1_18 rfl ?_
    refine pr_aload_n 54 dX1_keep_53 rfl rfl rfl ?_
    refine pr_getI 57 dX1_keep_54 fX1_21 rfl ?_
    rw [pm_gIn (by simp), pm_gIn (by simp), hc]
    refine pr_iload_n 58 dX1_keep_57 rfl rfl rfl ?_
    refine pr_iastore m 59 dX1_keep_58 rfl rfl rfl (by omega) rfl ?_
    refine pr_aload_n 60 dX1_keep_59 rfl rfl rfl ?_
    refine pr_dup rfl 61 dX1_keep_60 rfl ?_
    refine pr_getI 64 dX1_keep_61 fX1_21 rfl ?_
    rw [pm_gIn (by simp), pm_gIn (by simp), pm_gIn (by simp), hc]
    refine pr_iconst (1) 65 dX1_keep_64 (by decide) rfl ?_
    refine pr_iadd 66 dX1_keep_65 rfl ?_
    rw [nI_1]
    refine pr_putI 69 dX1_keep_66 fX1_21 rfl ?_
    refine pr_return dX1_keep_69 rfl ?_
    rw [keepP, ← em]
    refine ⟨rfl, (((hf.uI ⟨by simp, rfl⟩).uI ⟨by simp, rfl⟩).uI ⟨by simp, rfl⟩).uI ⟨by simp, rfl⟩, pm_gIe, fun j hj => ?_, ?_, ?_, ?_⟩
    · have z : ¬ j = m := by omega
      rw [pm_gIn (by simp), pm_gIn (by simp), pm_gIn (by simp), pm_gIn (fun y => z y.2.2), pm_gIn (by simp), pm_gIn (by simp), pm_gIn (fun y => z y.2.2), pm_gIn (by simp), pm_gIn (by simp), pm_gIn (fun y => z y.2.2), pm_gIn (by simp), pm_gIn (by simp)]
      exact h1 j hj
    · rw [pm_gIn (by simp), pm_gIn (by simp), pm_gIn (by simp), pm_gIe]
    · rw [pm_gIn (by simp), pm_gIn (by simp), pm_gIe]
    · rw [pm_gIn (by simp), pm_gIe]
  refine Cl.of (own := RX1) rfl rfl (Nat.le_of_ble_eq_true rfl) rfl ?_; show PR _ _ _ _ _ _ [some _, some _, some _, some _] _ _ _
  by_cases e : n = 12
  · have eo : ofN n = 1 := by rw [ofN, if_pos e]
    refine pr_aload_n 1 dX1_keep_0 rfl rfl rfl ?_
    refine pr_getI 4 dX1_keep_1 fX1_21 rfl ?_
    rw [hc]
    refine pr_bipush (12) 6 dX1_keep_4 (by decide) rfl ?_
    refine pr_icmp_lt 13 9 dX1_keep_6 rfl rfl (fun c_6 => absurd (c_6) (nI_nlt (b := 12) (by omega) (by omega))) (fun c_6 => ?_)
    refine pr_aload_n 10 dX1_keep_9 rfl rfl rfl ?_
    refine pr_inv0R0 13 dX1_keep_10 vX1_25 mX1_forgetOldest (sp_X1_forgetOldest (mem0 := mem0)) ⟨Nat.le_of_ble_eq_true rfl, Nat.le_of_ble_eq_true rfl⟩ (Nat.le_of_ble_eq_true rfl) rfl (fun mem1 h1 => ?_)
    exact rest mem1 11 (by omega) (by omega) h1.1 h1.2.1 (fun j hj => by rw [eo]; exact h1.2.2 j hj)
  · have eo : ofN n = 0 := by rw [ofN, if_neg e]
    refine pr_aload_n 1 dX1_keep_0 rfl rfl rfl ?_
    refine pr_getI 4 dX1_keep_1 fX1_21 rfl ?_
    rw [hc]
    refine pr_bipush (12) 6 dX1_keep_4 (by decide) rfl ?_
    refine pr_icmp_lt 13 9 dX1_keep_6 rfl rfl (fun c_6 => ?_) (fun c_6 => absurd (nI_lt (b := 12) (by omega) (by omega)) (c_6))
    exact rest mem0 n (by omega) (by omega) pm_fr.rf hc (fun j hj => by rw [eo]; exact ⟨rfl, rfl, rfl⟩)
/-- what was kept, as states -/
theorem histC.keep {n : Nat} {S : Nat → Nat → Nat} (hn : n ≤ 12) (hS : S n = K) (h : histC mem0 n S) {p v : Nat} (hp : p < 36) (hpo : pok K p) {r : Option pm_v} (hk : keepP mem0 n (nI (hkd p)) (nI (hix p)) (cdI p (K p)) r mem) : histC mem (n - ofN n + 1) (shS n S (up K p v)) := by
  obtain ⟨-, hf, k1, k2, k3⟩ := hk
  have ho : ofN n ≤ n := by unfold ofN; split <;> omega
  have eB := up_eqB (K := K) (v := v) hp
  have hpk : ∀ q, pok K q → pok (up K p v) q := fun q hq => by
    unfold pok
    rw [eB 38 (by omega), eB 39 (by omega), eB 40 (by omega)]
    exact hq
  have e1 : shS n S (up K p v) (n - ofN n + 1) = up K p v := by rw [shS, if_neg (by omega)]
  refine ⟨k1, fun j hj => ?_⟩
  rw [e1]
  by_cases z : j = n - ofN n
  · refine ⟨p, K p, hpk p hpo, by rw [z]; exact k3, ?_⟩
    rw [z, e1, up_back, shS, if_pos (by omega), show n - ofN n + ofN n = n by omega, hS]
  · obtain ⟨q, u, h1, h2, h3⟩ := h.2 (j + ofN n) (by omega)
    rw [hS] at h1
    refine ⟨q, u, hpk q h1, ?_, ?_⟩
    · obtain ⟨a1, a2, a3⟩ := k2 j (by omega)
      unfold entR
      rw [a1, a2, a3]
      exact h2
    · rw [shS, if_pos (by omega), shS, if_pos (by omega), h3, show j + ofN n + 1 = j + 1 + ofN n by omega]
theorem HW.keep {n : Nat} {S : Nat → Nat → Nat} {p v : Nat} (h : HW n S K) (h1 : WF (up K p v)) (h2 : WZ (up K p v)) : HW (n - ofN n + 1) (shS n S (up K p v)) (up K p v) := by
  have ho : ofN n = if n = 12 then 1 else 0 := rfl
  have := h.1
  refine ⟨by split at ho <;> omega, by rw [shS, if_neg (by omega)], fun j hj => ?_⟩
  by_cases z : j < n - ofN n + 1
  · rw [shS, if_pos z]
    exact h.2.2 _ (by split at ho <;> omega)
  · rw [shS, if_neg z]
    exact ⟨h1, h2⟩
end HIS
