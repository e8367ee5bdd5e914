/-! told anew: the class -/
def sCh (d : Nat) : Nat → Nat → Prop := fun t i => (t ∈ [20016014, 20004009, 20016010] ∧ i = d) ∨ sHi t i ∨ sSe 0 t i
/-- the class holds K and what it can come back to -/
def CI (mem : pm_M) (d : Nat) (K : Nat → Nat) (n : Nat) (S : Nat → Nat → Nat) : Prop := IC mem d K ∧ histC mem n S ∧ HW n S K
section CHG
variable {mem mem0 : pm_M} {d n : Nat} {K : Nat → Nat} {S : Nat → Nat → Nat}
theorem IC.up {K' : Nat → Nat} (h : IC mem0 d K) (hB : eqB K K') (hf : pm_fr (sCh d) mem0 mem) (hd : deskR mem d K') (ha : acR mem 0 K' (aw K') ai (K' 39)) : IC mem d K' := by
  obtain ⟨h1, -, hr, hg, hx, hw, -⟩ := h
  have hr2 : routR mem K := hr.fr hf (by simp [sCh, sHi, sSe])
  have hg2 : gapR mem (gps K) := hg.fr hf (by simp [sCh, sHi, sSe])
  refine ⟨by rw [(hf _ _ (by simp [sCh, sHi, sSe])).2.2]; exact h1, hd, ?_, by rw [gps_B hB]; exact hg2, ?_, ?_, ha⟩
  · refine ⟨fun t ht => ?_, fun t l ht hb => ?_⟩
    · rw [hB 40 (by omega)] at ht
      rw [hB _ (by omega), hB _ (by omega), hB _ (by omega), hB _ (by omega)]
      exact hr2.1 t ht
    · rw [hB 40 (by omega)] at ht
      rw [hB _ (by omega)] at hb
      rw [hB _ (by omega), hB _ (by omega)]
      exact hr2.2 t l ht hb
  · rw [(hf 20016210 0 (by simp [sCh, sHi, sSe])).1, (hf 20016211 0 (by simp [sCh, sHi, sSe])).1, (hf 20016209 0 (by simp [sCh, sHi, sSe])).1]
    intro l hl
    rw [hB 39 (by omega)] at hl
    rw [gla_B hB, gsm_B hB, hB _ (by omega)]
    refine ⟨(hx l hl).1, (hx l hl).2.1, (hx l hl).2.2.1, fun p hp => ?_⟩
    rw [(hf 20012608 l (by simp [sCh, sHi, sSe])).1, ch_B hB, hB 40 (by omega)]
    exact (hx l hl).2.2.2 p hp
  · intro a b ha hb
    rw [hB 37 (by omega)] at ha hb
    rw [(hf 20012607 a (by simp [sCh, sHi, sSe])).1, hB _ (by omega)]
    exact hw a b ha hb
theorem deskR.fuel (h : deskR mem0 d K) (hW : WF K) {t v : Nat} (ht : t < K 40) : deskR (pm_uI mem0 20016014 d t (nI v - 1)) d (up K (4 + t) v) := by
  have hn16 := hW.2.2.2.1
  have h16 := hW.2.2.2.2.1
  have h4 := hW.2.2.1
  have h12 := hW.2.1
  have hB := up_eqB (K := K) (p := 4 + t) (v := v) (by omega)
  obtain ⟨a1, a2, a3, a4, a5, a6, a7, a8, a9⟩ := h
  refine ⟨?_, ?_, ?_, ?_, ?_, fun p hp => ?_, fun k hk => ?_, fun l hl => ?_, fun u hu => ?_⟩
  · rw [pm_gIn (by simp), hB _ (by omega)]; exact a1
  · rw [pm_gIn (by simp), hB _ (by omega)]; exact a2
  · rw [pm_gIn (by simp), hB _ (by omega)]; exact a3
  · rw [pm_gIn (by simp), hB _ (by omega)]; exact a4
  · rw [pm_gIn (by simp), hB _ (by omega)]; exact a5
  · rw [hB _ (by omega)] at hp
    rw [pm_gIn (by simp), pm_gIn (by simp), hB _ (by omega), hB _ (by omega)]
    exact a6 p hp
  · rw [hB _ (by omega)] at hk
    rw [hB (65 + k) (by omega)]
    rw [pm_gIn (by simp), pm_gIn (by simp), up, if_neg (by omega)]
    exact a7 k hk
  · rw [hB _ (by omega)] at hl
    rw [hB (69 + l) (by omega), hB (85 + l) (by omega)]
    rw [pm_gIn (by simp), pm_gIn (by simp), pm_gIn (by simp), up, if_neg (by omega)]
    exact a8 l hl
  · rw [hB _ (by omega)] at hu
    rw [hB (101 + 6 * u) (by omega), hB (104 + 6 * u) (by omega)]
    refine ⟨by rw [pm_gIn (by simp)]; exact (a9 u hu).1, ?_, by rw [pm_gIn (by simp)]; exact (a9 u hu).2.2⟩
    unfold up
    by_cases z : u = t
    · subst z; rw [pm_gIe, if_pos rfl]
    · rw [pm_gIn (fun y => z y.2.2), if_neg (by omega)]; exact (a9 u hu).2.1
theorem deskR.bought (h : deskR mem0 d K) (hW : WF K) {t v : Nat} (ht : t < K 38) : deskR (pm_uI mem0 20004009 d t (nI v)) d (up K (t) v) := by
  have hn16 := hW.2.2.2.1
  have h16 := hW.2.2.2.2.1
  have h4 := hW.2.2.1
  have h12 := hW.2.1
  have hB := up_eqB (K := K) (p := t) (v := v) (by omega)
  obtain ⟨a1, a2, a3, a4, a5, a6, a7, a8, a9⟩ := h
  refine ⟨?_, ?_, ?_, ?_, ?_, fun p hp => ?_, fun k hk => ?_, fun l hl => ?_, fun u hu => ?_⟩
  · rw [pm_gIn (by simp), hB _ (by omega)]; exact a1
  · rw [pm_gIn (by simp), hB _ (by omega)]; exact a2
  · rw [pm_gIn (by simp), hB _ (by omega)]; exact a3
  · rw [pm_gIn (by simp), hB _ (by omega)]; exact a4
  · rw [pm_gIn (by simp), hB _ (by omega)]; exact a5
  · rw [hB _ (by omega)] at hp
    rw [pm_gIn (by simp), pm_gIn (by simp), hB _ (by omega), hB _ (by omega)]
    exact a6 p hp
  · rw [hB _ (by omega)] at hk
    rw [hB (65 + k) (by omega)]
    refine ⟨by rw [pm_gIn (by simp)]; exact (a7 k hk).1, ?_⟩
    unfold up
    by_cases z : k = t
    · subst z; rw [pm_gIe, if_pos rfl]
    · rw [pm_gIn (fun y => z y.2.2), if_neg z]; exact (a7 k hk).2
  · rw [hB _ (by omega)] at hl
    rw [hB (69 + l) (by omega), hB (85 + l) (by omega)]
    rw [pm_gIn (by simp), pm_gIn (by simp), pm_gIn (by simp), up, if_neg (by omega)]
    exact a8 l hl
  · rw [hB _ (by omega)] at hu
    rw [hB (101 + 6 * u) (by omega), hB (104 + 6 * u) (by omega)]
    rw [pm_gIn (by simp), pm_gIn (by simp), pm_gIn (by simp), up, if_neg (by omega)]
    exact a9 u hu
theorem deskR.weight (h : deskR mem0 d K) (hW : WF K) {t v : Nat} (ht : t < K 39) : deskR (pm_uI mem0 20016010 d t (nI v)) d (up K (20 + t) v) := by
  have hn16 := hW.2.2.2.1
  have h16 := hW.2.2.2.2.1
  have h4 := hW.2.2.1
  have h12 := hW.2.1
  have hB := up_eqB (K := K) (p := 20 + t) (v := v) (by omega)
  obtain ⟨a1, a2, a3, a4, a5, a6, a7, a8, a9⟩ := h
  refine ⟨?_, ?_, ?_, ?_, ?_, fun p hp => ?_, fun k hk => ?_, fun l hl => ?_, fun u hu => ?_⟩
  · rw [pm_gIn (by simp), hB _ (by omega)]; exact a1
  · rw [pm_gIn (by simp), hB _ (by omega)]; exact a2
  · rw [pm_gIn (by simp), hB _ (by omega)]; exact a3
  · rw [pm_gIn (by simp), hB _ (by omega)]; exact a4
  · rw [pm_gIn (by simp), hB _ (by omega)]; exact a5
  · rw [hB _ (by omega)] at hp
    rw [pm_gIn (by simp), pm_gIn (by simp), hB _ (by omega), hB _ (by omega)]
    exact a6 p hp
  · rw [hB _ (by omega)] at hk
    rw [hB (65 + k) (by omega)]
    rw [pm_gIn (by simp), pm_gIn (by simp), up, if_neg (by omega)]
    exact a7 k hk
  · rw [hB _ (by omega)] at hl
    rw [hB (69 + l) (by omega), hB (85 + l) (by omega)]
    refine ⟨?_, by rw [pm_gIn (by simp)]; exact (a8 l hl).2.1, by rw [pm_gIn (by simp)]; exact (a8 l hl).2.2⟩
    unfold up
    by_cases z : l = t
    · subst z; rw [pm_gIe, if_pos rfl]
    · rw [pm_gIn (fun y => z y.2.2), if_neg (by omega)]; exact (a8 l hl).1
  · rw [hB _ (by omega)] at hu
    rw [hB (101 + 6 * u) (by omega), hB (104 + 6 * u) (by omega)]
    rw [pm_gIn (by simp), pm_gIn (by simp), pm_gIn (by simp), up, if_neg (by omega)]
    exact a9 u hu
/-- a change: what it answers, what holds then -/
def chP (m0 : pm_M) (d : Nat) (K : Nat → Nat) (n : Nat) (S : Nat → Nat → Nat) (p v : Nat) : Option pm_v → pm_M → Prop := fun r mem =>
  pm_fr (sCh d) m0 mem ∧ if K p = v then r = some (pI (-2)) ∧ CI mem d K n S else r = some (pI (cdI p (K p))) ∧ CI mem d (up K p v) (n - ofN n + 1) (shS n S (up K p v))
theorem sHi_Ch : ∀ t i, sHi t i → sCh d t i := fun _ _ h => Or.inr (Or.inl h)
theorem sSe_Ch : ∀ t i, sSe 0 t i → sCh d t i := fun _ _ h => Or.inr (Or.inr h)
theorem histC.fr {Sf : Nat → Nat → Prop} (h : histC mem0 n S) (hf : pm_fr Sf mem0 mem) (h1 : ∀ t ∈ [10001901, 20012040, 20012041, 20012042], ¬ Sf t 0) : histC mem n S := by
  unfold histC entR
  rw [(hf _ _ (h1 _ (by simp))).1, (hf _ _ (h1 20012040 (by simp))).1, (hf _ _ (h1 20012041 (by simp))).1, (hf _ _ (h1 20012042 (by simp))).1]
  exact h
theorem Int32_m1 {a b : Nat} (ha : a < 2 ^ 31) (hb : b < 2 ^ 31) (h : nI a - 1 = nI b - 1) : a = b := by
  have : nI a = nI b := by
    have := congrArg (· + 1) h
    simpa using this
  exact (nI_eq ha hb).mp this
set_option maxRecDepth 100000 in
theorem sp_change_fuel (h : CI mem0 d K n S) {t v : Nat} (ht : t < K 40) (hv : v ≤ 10000) (hW' : WF (up K (4 + t) v)) (hZ' : WZ (up K (4 + t) v)) : Cl yX8_change cX8_change 6 (some .int) 5 118 [pR 10008908 0, pI 0, pR 20016014 d, pI (nI t), pI (nI v - 1)] mem0 (chP mem0 d K n S (4 + t) v) := by
  obtain ⟨hI, hH, hHW⟩ := h
  have hW : WF K := by have := (hHW.2.2 n (Nat.le_refl _)).1; rwa [hHW.2.1] at this
  have hn16 := hW.2.2.2.1
  have h16 := hW.2.2.2.2.1
  have h4 := hW.2.2.1
  have hI' := hI
  obtain ⟨h1, hd, hr, -⟩ := hI
  have hb := (hW.2.2.2.2.2.2.2.2.1 t ht).1
  have ec : cdI (4 + t) (K (4 + t)) = nI (K (4 + t)) - 1 := by unfold cdI; rw [if_pos (by omega)]
  refine Cl.of (own := RX8) rfl rfl (Nat.le_of_ble_eq_true rfl) rfl ?_; show PR _ _ _ _ _ _ [some _, some _, some _, some _, some _, none] _ _ _
  by_cases e : K (4 + t) = v
  · refine pr_aload_n 1 dX8_change_0 rfl rfl rfl ?_
    refine pr_iload_n 2 dX8_change_1 rfl rfl rfl ?_
    refine pr_iaload t 3 dX8_change_2 rfl rfl rfl (by omega) rfl ?_
    rw [(hd.2.2.2.2.2.2.2.2 t ht).2.1]
    refine pr_istore 5 dX8_change_3 (pm_st_5 rfl rfl) rfl ?_
    refine pr_iload 7 dX8_change_5 rfl rfl ?_
    refine pr_iload 9 dX8_change_7 rfl rfl ?_
    refine pr_icmp_ne 15 12 dX8_change_9 rfl rfl (fun c_9 => absurd (by rw [e]) (c_9)) (fun c_9 => ?_)
    refine pr_bipush (-2) 14 dX8_change_12 (by decide) rfl ?_
    refine pr_ireturn dX8_change_14 rfl ?_
    exact ⟨pm_fr.rf, by rw [if_pos e]; exact ⟨rfl, hI', hH, hHW⟩⟩
  · refine pr_aload_n 1 dX8_change_0 rfl rfl rfl ?_
    refine pr_iload_n 2 dX8_change_1 rfl rfl rfl ?_
    refine pr_iaload t 3 dX8_change_2 rfl rfl rfl (by omega) rfl ?_
    rw [(hd.2.2.2.2.2.2.2.2 t ht).2.1]
    refine pr_istore 5 dX8_change_3 (pm_st_5 rfl rfl) rfl ?_
    refine pr_iload 7 dX8_change_5 rfl rfl ?_
    refine pr_iload 9 dX8_change_7 rfl rfl ?_
    refine pr_icmp_ne 15 12 dX8_change_9 rfl rfl (fun c_9 => ?_) (fun c_9 => absurd (c_9) (fun z => e (Int32_m1 (by omega) (by omega) z)))
    refine pr_aload_n 16 dX8_change_15 rfl rfl rfl ?_
    refine pr_iload_n 17 dX8_change_16 rfl rfl rfl ?_
    refine pr_iload 19 dX8_change_17 rfl rfl ?_
    refine pr_iastore t 20 dX8_change_19 rfl rfl rfl (by omega) rfl ?_
    have d1 := deskR.fuel (v := v) hd hW ht
    have f1 : pm_fr (sCh d) mem0 (pm_uI mem0 20016014 d t (nI v - 1)) := pm_fr.rf.uI (Or.inl ⟨by simp, rfl⟩)
    have H1 : histC (pm_uI mem0 20016014 d t (nI v - 1)) n S := hH.fr (Sf := fun t' i => t' = 20016014 ∧ i = d) (pm_fr.rf.uI ⟨rfl, rfl⟩) (by simp)
    refine pr_aload_n 21 dX8_change_20 rfl rfl rfl ?_
    refine pr_getR0 24 dX8_change_21 fX8_45 rfl ?_
    refine pr_iload_n 25 dX8_change_24 rfl rfl rfl ?_
    refine pr_iload_n 26 dX8_change_25 rfl rfl rfl ?_
    refine pr_iload 28 dX8_change_26 rfl rfl ?_
    refine pr_inv0R3 31 dX8_change_28 vX8_284 mX1_keep (sp_X1_keep hHW.1 H1.1 _ _ _) ⟨Nat.le_of_ble_eq_true rfl, Nat.le_of_ble_eq_true rfl⟩ (Nat.le_of_ble_eq_true rfl) rfl (fun mem1 k1 => ?_)
    have hB := up_eqB (K := K) (p := 4 + t) (v := v) (by omega)
    have hpo : pok K (4 + t) := ⟨by omega, by omega, by omega⟩
    have k1' : keepP (pm_uI mem0 20016014 d t (nI v - 1)) n (nI (hkd (4 + t))) (nI (hix (4 + t))) (cdI (4 + t) (K (4 + t))) none mem1 := by
      rw [ec, show hkd (4 + t) = 0 by unfold hkd; rw [if_neg (by omega), if_pos (by omega)], show hix (4 + t) = t by unfold hix; rw [if_neg (by omega), if_pos (by omega)]; omega]
      exact ⟨rfl, k1⟩
    have H2 := H1.keep (v := v) hHW.1 hHW.2.1 (by omega) hpo k1'
    have f2 := f1.tr (k1.1.mono sHi_Ch)
    have d2 : deskR mem1 d (up K (4 + t) v) := d1.fr k1.1 (by simp [sHi])
    have p2 : mem1.2.2 10008908 0 6 = some d := by rw [(f2 _ _ (by simp [sCh, sHi, sSe])).2.2]; exact h1
    have r2 : routR mem1 (up K (4 + t) v) := by
      have r2 : routR mem1 K := hr.fr f2 (by simp [sCh, sHi, sSe])
      refine ⟨fun t ht => ?_, fun t l ht hb => ?_⟩
      · rw [hB 40 (by omega)] at ht
        rw [hB _ (by omega), hB _ (by omega), hB _ (by omega), hB _ (by omega)]
        exact r2.1 t ht
      · rw [hB 40 (by omega)] at ht
        rw [hB _ (by omega)] at hb
        rw [hB _ (by omega), hB _ (by omega)]
        exact r2.2 t l ht hb
    refine pr_aload_n 32 dX8_change_31 rfl rfl rfl ?_
    refine pr_inv0R0 35 dX8_change_32 vX8_87 mX8_settle (sp_X8_settle p2 d2 r2 hW') ⟨Nat.le_of_ble_eq_true rfl, Nat.le_of_ble_eq_true rfl⟩ (Nat.le_of_ble_eq_true rfl) rfl (fun mem2 s2 => ?_)
    refine pr_iload 37 dX8_change_35 rfl rfl ?_
    refine pr_ireturn dX8_change_37 rfl ?_
    refine ⟨f2.tr (s2.1.mono sSe_Ch), ?_⟩
    rw [if_neg e, ec]
    exact ⟨rfl, hI'.up hB (f2.tr (s2.1.mono sSe_Ch)) (d2.fr s2.1 (sSe_desk _)) s2.2, H2.fr s2.1 (by simp [sSe]), hHW.keep hW' hZ'⟩
set_option maxRecDepth 100000 in
theorem sp_change_bought (h : CI mem0 d K n S) {t v : Nat} (ht : t < K 38) (hv : v ≤ 9999) (hW' : WF (up K (t) v)) (hZ' : WZ (up K (t) v)) : Cl yX8_change cX8_change 6 (some .int) 5 118 [pR 10008908 0, pI 1, pR 20004009 d, pI (nI t), pI (nI v)] mem0 (chP mem0 d K n S (t) v) := by
  obtain ⟨hI, hH, hHW⟩ := h
  have hW : WF K := by have := (hHW.2.2 n (Nat.le_refl _)).1; rwa [hHW.2.1] at this
  have hn16 := hW.2.2.2.1
  have h16 := hW.2.2.2.2.1
  have h4 := hW.2.2.1
  have hI' := hI
  obtain ⟨h1, hd, hr, -⟩ := hI
  have hb := (hW.2.2.2.2.2.1 t (by omega)).1
  have ec : cdI (t) (K (t)) = nI (K (t)) := by unfold cdI; rw [if_neg (by omega)]
  refine Cl.of (own := RX8) rfl rfl (Nat.le_of_ble_eq_true rfl) rfl ?_; show PR _ _ _ _ _ _ [some _, some _, some _, some _, some _, none] _ _ _
  by_cases e : K (t) = v
  · refine pr_aload_n 1 dX8_change_0 rfl rfl rfl ?_
    refine pr_iload_n 2 dX8_change_1 rfl rfl rfl ?_
    refine pr_iaload t 3 dX8_change_2 rfl rfl rfl (by omega) rfl ?_
    rw [(hd.2.2.2.2.2.2.1 t ht).2]
    refine pr_istore 5 dX8_change_3 (pm_st_5 rfl rfl) rfl ?_
    refine pr_iload 7 dX8_change_5 rfl rfl ?_
    refine pr_iload 9 dX8_change_7 rfl rfl ?_
    refine pr_icmp_ne 15 12 dX8_change_9 rfl rfl (fun c_9 => absurd (by rw [e]) (c_9)) (fun c_9 => ?_)
    refine pr_bipush (-2) 14 dX8_change_12 (by decide) rfl ?_
    refine pr_ireturn dX8_change_14 rfl ?_
    exact ⟨pm_fr.rf, by rw [if_pos e]; exact ⟨rfl, hI', hH, hHW⟩⟩
  · refine pr_aload_n 1 dX8_change_0 rfl rfl rfl ?_
    refine pr_iload_n 2 dX8_change_1 rfl rfl rfl ?_
    refine pr_iaload t 3 dX8_change_2 rfl rfl rfl (by omega) rfl ?_
    rw [(hd.2.2.2.2.2.2.1 t ht).2]
    refine pr_istore 5 dX8_change_3 (pm_st_5 rfl rfl) rfl ?_
    refine pr_iload 7 dX8_change_5 rfl rfl ?_
    refine pr_iload 9 dX8_change_7 rfl rfl ?_
    refine pr_icmp_ne 15 12 dX8_change_9 rfl rfl (fun c_9 => ?_) (fun c_9 => absurd (c_9) (fun z => e ((nI_eq (by omega) (by omega)).mp z)))
    refine pr_aload_n 16 dX8_change_15 rfl rfl rfl ?_
    refine pr_iload_n 17 dX8_change_16 rfl rfl rfl ?_
    refine pr_iload 19 dX8_change_17 rfl rfl ?_
    refine pr_iastore t 20 dX8_change_19 rfl rfl rfl (by omega) rfl ?_
    have d1 := deskR.bought (v := v) hd hW ht
    have f1 : pm_fr (sCh d) mem0 (pm_uI mem0 20004009 d t (nI v)) := pm_fr.rf.uI (Or.inl ⟨by simp, rfl⟩)
    have H1 : histC (pm_uI mem0 20004009 d t (nI v)) n S := hH.fr (Sf := fun t' i => t' = 20004009 ∧ i = d) (pm_fr.rf.uI ⟨rfl, rfl⟩) (by simp)
    refine pr_aload_n 21 dX8_change_20 rfl rfl rfl ?_
    refine pr_getR0 24 dX8_change_21 fX8_45 rfl ?_
    refine pr_iload_n 25 dX8_change_24 rfl rfl rfl ?_
    refine pr_iload_n 26 dX8_change_25 rfl rfl rfl ?_
    refine pr_iload 28 dX8_change_26 rfl rfl ?_
    refine pr_inv0R3 31 dX8_change_28 vX8_284 mX1_keep (sp_X1_keep hHW.1 H1.1 _ _ _) ⟨Nat.le_of_ble_eq_true rfl, Nat.le_of_ble_eq_true rfl⟩ (Nat.le_of_ble_eq_true rfl) rfl (fun mem1 k1 => ?_)
    have hB := up_eqB (K := K) (p := t) (v := v) (by omega)
    have hpo : pok K (t) := ⟨by omega, by omega, by omega⟩
    have k1' : keepP (pm_uI mem0 20004009 d t (nI v)) n (nI (hkd (t))) (nI (hix (t))) (cdI (t) (K (t))) none mem1 := by
      rw [ec, show hkd (t) = 1 by unfold hkd; rw [if_pos (by omega)], show hix (t) = t by unfold hix; rw [if_pos (by omega)]]
      exact ⟨rfl, k1⟩
    have H2 := H1.keep (v := v) hHW.1 hHW.2.1 (by omega) hpo k1'
    have f2 := f1.tr (k1.1.mono sHi_Ch)
    have d2 : deskR mem1 d (up K (t) v) := d1.fr k1.1 (by simp [sHi])
    have p2 : mem1.2.2 10008908 0 6 = some d := by rw [(f2 _ _ (by simp [sCh, sHi, sSe])).2.2]; exact h1
    have r2 : routR mem1 (up K (t) v) := by
      have r2 : routR mem1 K := hr.fr f2 (by simp [sCh, sHi, sSe])
      refine ⟨fun t ht => ?_, fun t l ht hb => ?_⟩
      · rw [hB 40 (by omega)] at ht
        rw [hB _ (by omega), hB _ (by omega), hB _ (by omega), hB _ (by omega)]
        exact r2.1 t ht
      · rw [hB 40 (by omega)] at ht
        rw [hB _ (by omega)] at hb
        rw [hB _ (by omega), hB _ (by omega)]
        exact r2.2 t l ht hb
    refine pr_aload_n 32 dX8_change_31 rfl rfl rfl ?_
    refine pr_inv0R0 35 dX8_change_32 vX8_87 mX8_settle (sp_X8_settle p2 d2 r2 hW') ⟨Nat.le_of_ble_eq_true rfl, Nat.le_of_ble_eq_true rfl⟩ (Nat.le_of_ble_eq_true rfl) rfl (fun mem2 s2 => ?_)
    refine pr_iload 37 dX8_change_35 rfl rfl ?_
    refine pr_ireturn dX8_change_37 rfl ?_
    refine ⟨f2.tr (s2.1.mono sSe_Ch), ?_⟩
    rw [if_neg e, ec]
    exact ⟨rfl, hI'.up hB (f2.tr (s2.1.mono sSe_Ch)) (d2.fr s2.1 (sSe_desk _)) s2.2, H2.fr s2.1 (by simp [sSe]), hHW.keep hW' hZ'⟩
set_option maxRecDepth 100000 in
theorem sp_change_weight (h : CI mem0 d K n S) {t v : Nat} (ht : t < K 39) (hv : v ≤ 99) (hW' : WF (up K (20 + t) v)) (hZ' : WZ (up K (20 + t) v)) : Cl yX8_change cX8_change 6 (some .int) 5 118 [pR 10008908 0, pI 2, pR 20016010 d, pI (nI t), pI (nI v)] mem0 (chP mem0 d K n S (20 + t) v) := by
  obtain ⟨hI, hH, hHW⟩ := h
  have hW : WF K := by have := (hHW.2.2 n (Nat.le_refl _)).1; rwa [hHW.2.1] at this
  have hn16 := hW.2.2.2.1
  have h16 := hW.2.2.2.2.1
  have h4 := hW.2.2.1
  have hI' := hI
  obtain ⟨h1, hd, hr, -⟩ := hI
  have hb := (hW.2.2.2.2.2.2.2.1 t ht).1
  have ec : cdI (20 + t) (K (20 + t)) = nI (K (20 + t)) := by unfold cdI; rw [if_neg (by omega)]
  refine Cl.of (own := RX8) rfl rfl (Nat.le_of_ble_eq_true rfl) rfl ?_; show PR _ _ _ _ _ _ [some _, some _, some _, some _, some _, none] _ _ _
  by_cases e : K (20 + t) = v
  · refine pr_aload_n 1 dX8_change_0 rfl rfl rfl ?_
    refine pr_iload_n 2 dX8_change_1 rfl rfl rfl ?_
    refine pr_iaload t 3 dX8_change_2 rfl rfl rfl (by omega) rfl ?_
    rw [(hd.2.2.2.2.2.2.2.1 t ht).1]
    refine pr_istore 5 dX8_change_3 (pm_st_5 rfl rfl) rfl ?_
    refine pr_iload 7 dX8_change_5 rfl rfl ?_
    refine pr_iload 9 dX8_change_7 rfl rfl ?_
    refine pr_icmp_ne 15 12 dX8_change_9 rfl rfl (fun c_9 => absurd (by rw [e]) (c_9)) (fun c_9 => ?_)
    refine pr_bipush (-2) 14 dX8_change_12 (by decide) rfl ?_
    refine pr_ireturn dX8_change_14 rfl ?_
    exact ⟨pm_fr.rf, by rw [if_pos e]; exact ⟨rfl, hI', hH, hHW⟩⟩
  · refine pr_aload_n 1 dX8_change_0 rfl rfl rfl ?_
    refine pr_iload_n 2 dX8_change_1 rfl rfl rfl ?_
    refine pr_iaload t 3 dX8_change_2 rfl rfl rfl (by omega) rfl ?_
    rw [(hd.2.2.2.2.2.2.2.1 t ht).1]
    refine pr_istore 5 dX8_change_3 (pm_st_5 rfl rfl) rfl ?_
    refine pr_iload 7 dX8_change_5 rfl rfl ?_
    refine pr_iload 9 dX8_change_7 rfl rfl ?_
    refine pr_icmp_ne 15 12 dX8_change_9 rfl rfl (fun c_9 => ?_) (fun c_9 => absurd (c_9) (fun z => e ((nI_eq (by omega) (by omega)).mp z)))
    refine pr_aload_n 16 dX8_change_15 rfl rfl rfl ?_
    refine pr_iload_n 17 dX8_change_16 rfl rfl rfl ?_
    refine pr_iload 19 dX8_change_17 rfl rfl ?_
    refine pr_iastore t 20 dX8_change_19 rfl rfl rfl (by omega) rfl ?_
    have d1 := deskR.weight (v := v) hd hW ht
    have f1 : pm_fr (sCh d) mem0 (pm_uI mem0 20016010 d t (nI v)) := pm_fr.rf.uI (Or.inl ⟨by simp, rfl⟩)
    have H1 : histC (pm_uI mem0 20016010 d t (nI v)) n S := hH.fr (Sf := fun t' i => t' = 20016010 ∧ i = d) (pm_fr.rf.uI ⟨rfl, rfl⟩) (by simp)
    refine pr_aload_n 21 dX8_change_20 rfl rfl rfl ?_
    refine pr_getR0 24 dX8_change_21 fX8_45 rfl ?_
    refine pr_iload_n 25 dX8_change_24 rfl rfl rfl ?_
    refine pr_iload_n 26 dX8_change_25 rfl rfl rfl ?_
    refine pr_iload 28 dX8_change_26 rfl rfl ?_
    refine pr_inv0R3 31 dX8_change_28 vX8_284 mX1_keep (sp_X1_keep hHW.1 H1.1 _ _ _) ⟨Nat.le_of_ble_eq_true rfl, Nat.le_of_ble_eq_true rfl⟩ (Nat.le_of_ble_eq_true rfl) rfl (fun mem1 k1 => ?_)
    have hB := up_eqB (K := K) (p := 20 + t) (v := v) (by omega)
    have hpo : pok K (20 + t) := ⟨by omega, by omega, by omega⟩
    have k1' : keepP (pm_uI mem0 20016010 d t (nI v)) n (nI (hkd (20 + t))) (nI (hix (20 + t))) (cdI (20 + t) (K (20 + t))) none mem1 := by
      rw [ec, show hkd (20 + t) = 2 by unfold hkd; rw [if_neg (by omega), if_neg (by omega)], show hix (20 + t) = t by unfold hix; rw [if_neg (by omega), if_neg (by omega)]; omega]
      exact ⟨rfl, k1⟩
    have H2 := H1.keep (v := v) hHW.1 hHW.2.1 (by omega) hpo k1'
    have f2 := f1.tr (k1.1.mono sHi_Ch)
    have d2 : deskR mem1 d (up K (20 + t) v) := d1.fr k1.1 (by simp [sHi])
    have p2 : mem1.2.2 10008908 0 6 = some d := by rw [(f2 _ _ (by simp [sCh, sHi, sSe])).2.2]; exact h1
    have r2 : routR mem1 (up K (20 + t) v) := by
      have r2 : routR mem1 K := hr.fr f2 (by simp [sCh, sHi, sSe])
      refine ⟨fun t ht => ?_, fun t l ht hb => ?_⟩
      · rw [hB 40 (by omega)] at ht
        rw [hB _ (by omega), hB _ (by omega), hB _ (by omega), hB _ (by omega)]
        exact r2.1 t ht
      · rw [hB 40 (by omega)] at ht
        rw [hB _ (by omega)] at hb
        rw [hB _ (by omega), hB _ (by omega)]
        exact r2.2 t l ht hb
    refine pr_aload_n 32 dX8_change_31 rfl rfl rfl ?_
    refine pr_inv0R0 35 dX8_change_32 vX8_87 mX8_settle (sp_X8_settle p2 d2 r2 hW') ⟨Nat.le_of_ble_eq_true rfl, Nat.le_of_ble_eq_true rfl⟩ (Nat.le_of_ble_eq_true rfl) rfl (fun mem2 s2 => ?_)
    refine pr_iload 37 dX8_change_35 rfl rfl ?_
    refine pr_ireturn dX8_change_37 rfl ?_
    refine ⟨f2.tr (s2.1.mono sSe_Ch), ?_⟩
    rw [if_neg e, ec]
    exact ⟨rfl, hI'.up hB (f2.tr (s2.1.mono sSe_Ch)) (d2.fr s2.1 (sSe_desk _)) s2.2, H2.fr s2.1 (by simp [sSe]), hHW.keep hW' hZ'⟩
end CHG
