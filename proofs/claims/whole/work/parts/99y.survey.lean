/-! the class: Routes.survey -/
theorem sW_le {M n k : Nat} {sf : Nat → Nat × Nat} {se H : Nat → Nat} (h : sW M sf se H n) (hk : k ≤ n) : sW M sf se H k := ⟨by have := h.1; omega, h.2.1, fun t ht => h.2.2 t (by omega)⟩
section SVY
variable {mem0 : pm_M} {d sn : Nat} {K : Nat → Nat} {sf : Nat → Nat × Nat} {se : Nat → Nat}
def sSv : Nat → Nat → Prop := fun t i => (t ∈ [10005905, 20016201, 20016202, 20016203, 20016204, 20016209, 20016210, 20016211, 20288213, 20288214, 20288215] ∧ i = 0) ∨ t = 20012608 ∨ t = 20012607 ∨ t = 20016605 ∨ t = 20016606
def sF3 : Nat → Nat → Prop := fun t i => (t ∈ [10005905, 20288213, 20288214, 20288215, 20016210, 20016211] ∧ i = 0) ∨ t = 20012608
def svP (m0 m : pm_M) (K : Nat → Nat) : Prop := pm_fr sSv m0 m ∧ routR m K ∧ gapR m (gps K) ∧
  (∀ l, l < K 39 → m.1 20016210 0 l = nI (gla K l).length ∧ m.1 20016211 0 l = nI (gsm K (gla K l)) ∧ m.1 20016209 0 l = nI (K (853 + l)) ∧ ∀ p, p < 12 → m.1 20012608 l p = nI (ch K l p (K 40))) ∧
  (∀ a b, a < K 37 → b < K 37 → m.1 20012607 a b = nI (K (709 + 12 * a + b)))
set_option maxRecDepth 100000 in
theorem sp_X5_survey (hr : rdD mem0 d K (K 40) sn sf se) (hW : WF K) (hC : RC K sf se (K 40) sn) (hb : BA K (K 40) sn) (ho : ∀ t, t < K 40 → oT sf (fs se t) (se t - fs se t) = 0) (hsn : sn ≤ 200) : Cl yX5_survey cX5_survey 3 none 4 96 [pR 10005905 0, pR 10000900 d] mem0 (fun r m => r = none ∧ svP mem0 m K) := by
  have h12 := hW.2.1
  have h4 := hW.2.2.1
  have h16 := hW.2.2.2.1
  have h40 := hW.2.2.2.2.1
  have hsW := hC.sw hb
  -- the loads
  have lp3 : ∀ mem2, rdD mem2 d K (K 40) sn sf se → mem2.2.2 10005905 0 0 = some d → routR mem2 K → zB mem2 0 → (∀ l, l < 16 → mem2.1 20016210 0 l = 0 ∧ mem2.1 20016211 0 l = 0 ∧ ∀ p, p < 12 → mem2.1 20012608 l p = 0) → pm_fr sSv mem0 mem2 → (∀ l, l < 16 → mem2.1 20016209 0 l = nI (K (853 + l))) → (∀ a b, a < K 37 → b < K 37 → mem2.1 20012607 a b = nI (K (709 + 12 * a + b))) → ∀ j l mem, l + j = K 39 → pm_fr sF3 mem2 mem → mem.2.2 = mem2.2.2 → gapR mem (gks K (K 38) ++ gls K l) → (∀ u, u < l → mem.1 20016210 0 u = nI (gla K u).length ∧ mem.1 20016211 0 u = nI (gsm K (gla K u)) ∧ ∀ p, p < 12 → mem.1 20012608 u p = nI (ch K u p (K 40))) → (∀ u, l ≤ u → u < 16 → mem.1 20016210 0 u = 0 ∧ mem.1 20016211 0 u = 0 ∧ ∀ p, p < 12 → mem.1 20012608 u p = 0) → PR cX5_survey RX5 3 4 96 59 [some (pR 10005905 0), some (pR 10000900 d), some (pI (nI l))] [] mem (pm_RX cX5_survey none (fun r m => r = none ∧ svP mem0 m K)) := by
    intro mem2 hr2 hp2 hR2 _ _ hf02 hll hww j
    induction j with
    | zero =>
      intro l mem hj hf hf2 hg hd1 _
      have e : l = K 39 := by omega
      subst e
      have hp1 : mem.2.2 10005905 0 0 = some d := by rw [hf2]; exact hp2
      have hdk := hr2.desk.fr hf (by simp [sF3])
      refine pr_iload_n 60 dX5_survey_59 rfl rfl rfl ?_
      refine pr_aload_n 61 dX5_survey_60 rfl rfl rfl ?_
      refine pr_getP d 64 dX5_survey_61 fX5_56 hp1 rfl ?_
      refine pr_getI 67 dX5_survey_64 fX5_79 rfl ?_
      rw [hdk.2.2.2.1]
      refine pr_icmp_ge 81 70 dX5_survey_67 rfl rfl (fun c_67 => ?_) (fun c_67 => absurd (Int32.le_refl _) (c_67))
      refine pr_return dX5_survey_81 rfl ?_
      refine ⟨rfl, hf02.tr (hf.mono (fun t i z => ?_)), hR2.fr hf (by simp [sF3]), hg, fun l hl => ⟨(hd1 l hl).1, (hd1 l hl).2.1, ?_, (hd1 l hl).2.2⟩, fun a b ha hb => ?_⟩
      · rcases z with ⟨z, z'⟩ | z
        · left; simp at z ⊢; omega
        · exact Or.inr (Or.inl z)
      · rw [(hf 20016209 0 (by simp [sF3])).1]; exact hll l (by omega)
      · rw [(hf 20012607 a (by simp [sF3])).1]; exact hww a b ha hb
    | succ j ih =>
      intro l mem hj hf hf2 hg hd1 hz1
      have hp1 : mem.2.2 10005905 0 0 = some d := by rw [hf2]; exact hp2
      have hdk := hr2.desk.fr hf (by simp [sF3])
      have hrk := hR2.fr hf (by simp [sF3])
      obtain ⟨q1, q2, q3⟩ := hz1 l (by omega) (by omega)
      refine pr_iload_n 60 dX5_survey_59 rfl rfl rfl ?_
      refine pr_aload_n 61 dX5_survey_60 rfl rfl rfl ?_
      refine pr_getP d 64 dX5_survey_61 fX5_56 hp1 rfl ?_
      refine pr_getI 67 dX5_survey_64 fX5_79 rfl ?_
      rw [hdk.2.2.2.1]
      refine pr_icmp_ge 81 70 dX5_survey_67 rfl rfl (fun c_67 => absurd (c_67) (nI_ge (by omega) (by omega))) (fun c_67 => ?_)
      refine pr_aload_n 71 dX5_survey_70 rfl rfl rfl ?_
      refine pr_iload_n 72 dX5_survey_71 rfl rfl rfl ?_
      refine pr_inv0R1 75 dX5_survey_72 vX5_82 mX5_followLoad (sp_X5_followLoad hdk hrk hW hp1 (l := l) (by omega) hg q1 q2 q3) ⟨Nat.le_of_ble_eq_true rfl, Nat.le_of_ble_eq_true rfl⟩ (Nat.le_of_ble_eq_true rfl) rfl (fun mem1 h1 => ?_)
      refine pr_iinc 78 dX5_survey_75 rfl (by first | exact pm_inc _ | rfl) (pm_st_2 rfl rfl) rfl ?_
      refine pr_goto 59 dX5_survey_78 rfl ?_
      obtain ⟨j1, j2, j3, j4, j5, j6, j7⟩ := h1
      refine ih (l + 1) mem1 (by omega) (hf.tr (j1.mono (fun t i z => z.elim Or.inl (fun y => Or.inr y.1)))) (j2.trans hf2) (by rw [gls, ← List.append_assoc]; exact j3) (fun u hu => ?_) (fun u hu hu2 => ?_)
      · by_cases z : u = l
        · subst z; exact ⟨j4, j5, j6⟩
        · rw [(j7 u z).1, (j7 u z).2]
          refine ⟨(hd1 u (by omega)).1, (hd1 u (by omega)).2.1, fun p hp => ?_⟩
          rw [(j1 20012608 u (by simp; omega)).1]
          exact (hd1 u (by omega)).2.2 p hp
      · have z : u ≠ l := by omega
        rw [(j7 u z).1, (j7 u z).2]
        refine ⟨(hz1 u (by omega) hu2).1, (hz1 u (by omega) hu2).2.1, fun p hp => ?_⟩
        rw [(j1 20012608 u (by simp; omega)).1]
        exact (hz1 u (by omega) hu2).2.2 p hp
  -- the trucks
  have lp2 : ∀ mem2, rdD mem2 d K (K 40) sn sf se → mem2.2.2 10005905 0 0 = some d → routR mem2 K → (∀ l, l < 16 → mem2.1 20016210 0 l = 0 ∧ mem2.1 20016211 0 l = 0 ∧ ∀ p, p < 12 → mem2.1 20012608 l p = 0) → pm_fr sSv mem0 mem2 → (∀ l, l < 16 → mem2.1 20016209 0 l = nI (K (853 + l))) → (∀ a b, a < K 37 → b < K 37 → mem2.1 20012607 a b = nI (K (709 + 12 * a + b))) → ∀ j k mem, k + j = K 38 → pm_fr sGp mem2 mem → mem.2.2 = mem2.2.2 → gapR mem (gks K k) → PR cX5_survey RX5 3 4 96 35 [some (pR 10005905 0), some (pR 10000900 d), some (pI (nI k))] [] mem (pm_RX cX5_survey none (fun r m => r = none ∧ svP mem0 m K)) := by
    intro mem2 hr2 hp2 hR2 hz hf02 hll hww j
    induction j with
    | zero =>
      intro k mem hj hf hf2 hg
      have e : k = K 38 := by omega
      subst e
      have hp1 : mem.2.2 10005905 0 0 = some d := by rw [hf2]; exact hp2
      have hdk := hr2.desk.fr hf (by simp [sGp])
      refine pr_iload_n 36 dX5_survey_35 rfl rfl rfl ?_
      refine pr_aload_n 37 dX5_survey_36 rfl rfl rfl ?_
      refine pr_getP d 40 dX5_survey_37 fX5_56 hp1 rfl ?_
      refine pr_getI 43 dX5_survey_40 fX5_73 rfl ?_
      rw [hdk.2.2.1]
      refine pr_icmp_ge 57 46 dX5_survey_43 rfl rfl (fun c_43 => ?_) (fun c_43 => absurd (Int32.le_refl _) (c_43))
      refine pr_iconst (0) 58 dX5_survey_57 (by decide) rfl ?_
      refine pr_istore_n 59 dX5_survey_58 rfl (pm_st_2 rfl rfl) rfl ?_
      refine lp3 mem (rdD.eq hr2 (fun t ht => (hf t d (fun z => ?_)).1)) hp1 (hR2.fr hf (by simp [sGp])) (fun u hu => absurd hu (Nat.not_lt_zero _)) (fun l hl => ?_) (hf02.tr (hf.mono (fun t i z => ?_))) (fun l hl => ?_) (fun a b ha hb => ?_) (K 39) 0 mem (by omega) pm_fr.rf rfl (by rw [gls, List.append_nil]; exact hg) (fun u hu => absurd hu (Nat.not_lt_zero _)) (fun l _ hl => ?_)
      · have z1 := z.1
        simp [dkT] at ht
        simp at z1
        omega
      · rw [(hf 20016210 0 (by simp [sGp])).1, (hf 20016211 0 (by simp [sGp])).1]
        exact ⟨(hz l hl).1, (hz l hl).2.1, fun p hp => by rw [(hf 20012608 l (by simp [sGp])).1]; exact (hz l hl).2.2 p hp⟩
      · left
        have z1 := z.1
        simp at z1 ⊢
        exact ⟨by omega, z.2⟩
      · rw [(hf 20016209 0 (by simp [sGp])).1]; exact hll l hl
      · rw [(hf 20012607 a (by simp [sGp])).1]; exact hww a b ha hb
      · rw [(hf 20016210 0 (by simp [sGp])).1, (hf 20016211 0 (by simp [sGp])).1]
        exact ⟨(hz l hl).1, (hz l hl).2.1, fun p hp => by rw [(hf 20012608 l (by simp [sGp])).1]; exact (hz l hl).2.2 p hp⟩
    | succ j ih =>
      intro k mem hj hf hf2 hg
      have hp1 : mem.2.2 10005905 0 0 = some d := by rw [hf2]; exact hp2
      have hdk := hr2.desk.fr hf (by simp [sGp])
      have hrk := hR2.fr hf (by simp [sGp])
      refine pr_iload_n 36 dX5_survey_35 rfl rfl rfl ?_
      refine pr_aload_n 37 dX5_survey_36 rfl rfl rfl ?_
      refine pr_getP d 40 dX5_survey_37 fX5_56 hp1 rfl ?_
      refine pr_getI 43 dX5_survey_40 fX5_73 rfl ?_
      rw [hdk.2.2.1]
      refine pr_icmp_ge 57 46 dX5_survey_43 rfl rfl (fun c_43 => absurd (c_43) (nI_ge (by omega) (by omega))) (fun c_43 => ?_)
      refine pr_aload_n 47 dX5_survey_46 rfl rfl rfl ?_
      refine pr_iload_n 48 dX5_survey_47 rfl rfl rfl ?_
      refine pr_inv0R1 51 dX5_survey_48 vX5_76 mX5_findGapsOfTruck (sp_X5_findGapsOfTruck hdk hrk hW hp1 (k := k) (by omega) hg) ⟨Nat.le_of_ble_eq_true rfl, Nat.le_of_ble_eq_true rfl⟩ (Nat.le_of_ble_eq_true rfl) rfl (fun mem1 h1 => ?_)
      refine pr_iinc 54 dX5_survey_51 rfl (by first | exact pm_inc _ | rfl) (pm_st_2 rfl rfl) rfl ?_
      refine pr_goto 35 dX5_survey_54 rfl ?_
      exact ih (k + 1) mem1 (by omega) (hf.tr h1.1) (h1.2.1.trans hf2) h1.2.2
  -- the trips
  have lp1 : ∀ mem1, rdD mem1 d K (K 40) sn sf se → mem1.2.2 10005905 0 0 = some d → pm_fr sSv mem0 mem1 → mem1.1 10005905 0 12 = 0 → (∀ l, l < 16 → mem1.1 20016210 0 l = 0 ∧ mem1.1 20016211 0 l = 0 ∧ ∀ p, p < 12 → mem1.1 20012608 l p = 0) → ∀ j t mem, t + j = K 40 → pm_fr sDL mem1 mem → mem.2.2 = mem1.2.2 → dvI mem (rA sf se (z0 K) t) t 0 → PR cX5_survey RX5 3 4 96 11 [some (pR 10005905 0), some (pR 10000900 d), some (pI (nI t))] [] mem (pm_RX cX5_survey none (fun r m => r = none ∧ svP mem0 m K)) := by
    intro mem1 hr1 hp1 hf01 hg0 hz j
    have dkx : ∀ mem, pm_fr sDL mem1 mem → rdD mem d K (K 40) sn sf se := fun mem hf => rdD.eq hr1 (fun t' ht' => (hf t' d (fun z => by
      simp [dkT] at ht'
      simp [sDL] at z
      omega)).1)
    induction j with
    | zero =>
      intro t mem hj hf hf2 hi
      have e : t = K 40 := by omega
      subst e
      have hp2 : mem.2.2 10005905 0 0 = some d := by rw [hf2]; exact hp1
      have hr2 := dkx mem hf
      obtain ⟨i1, i2, i3, i4, i5, -⟩ := hi
      have hJ := hC.1
      have z0' : ∀ l, ¬ (0 : Nat).testBit l = true := fun l z => by rw [Nat.zero_testBit] at z; cases z
      refine pr_iload_n 12 dX5_survey_11 rfl rfl rfl ?_
      refine pr_aload_n 13 dX5_survey_12 rfl rfl rfl ?_
      refine pr_getP d 16 dX5_survey_13 fX5_56 hp2 rfl ?_
      refine pr_getI 19 dX5_survey_16 fX5_63 rfl ?_
      rw [hr2.desk.2.2.2.2.1]
      refine pr_icmp_ge 33 22 dX5_survey_19 rfl rfl (fun c_19 => ?_) (fun c_19 => absurd (Int32.le_refl _) (c_19))
      refine pr_iconst (0) 34 dX5_survey_33 (by decide) rfl ?_
      refine pr_istore_n 35 dX5_survey_34 rfl (pm_st_2 rfl rfl) rfl ?_
      refine lp2 mem hr2 hp2 ⟨fun t ht => ?_, fun t l ht hb => ?_⟩ (fun l hl => ?_) (hf01.tr (hf.mono (fun t i z => ?_))) (fun l hl => ?_) (fun a b ha hb => ?_) (K 38) 0 mem (by omega) pm_fr.rf rfl ⟨?_, fun i q hq => by cases hq⟩
      · obtain ⟨a1, a2, a3⟩ := i1 t (by omega)
        rw [a1, a2, a3, i5 t ht, hJ _ (by unfold jx; omega), hJ _ (by unfold jx; omega), hJ _ (by unfold jx; omega), hJ _ (by unfold jx; omega)]
        exact ⟨rfl, rfl, rfl, rfl⟩
      · have hl := (hW.2.2.2.2.2.2.2.2.2 t l ht hb).1
        have := i4 t l (by omega) (by omega) (by rw [hJ _ (by unfold jx; omega)]; exact hb)
        rw [hJ _ (by unfold jx; omega), hJ _ (by unfold jx; omega)] at this
        exact ⟨this.1, this.2 (fun z => z0' l z.2)⟩
      · rw [(hf 20016210 0 (by simp [sDL])).1, (hf 20016211 0 (by simp [sDL])).1]
        exact ⟨(hz l hl).1, (hz l hl).2.1, fun p hp => by rw [(hf 20012608 l (by simp [sDL])).1]; exact (hz l hl).2.2 p hp⟩
      · rcases z with ⟨z, z'⟩ | z | z | z
        · left; simp at z ⊢; omega
        · exact Or.inr (Or.inr (Or.inl z))
        · exact Or.inr (Or.inr (Or.inr (Or.inl z)))
        · exact Or.inr (Or.inr (Or.inr (Or.inr z)))
      · rw [i3 l hl, hJ _ (by unfold jx; omega)]
      · rw [i2 a b (by omega) (by omega), hJ _ (by unfold jx; omega)]
      · rw [(hf 10005905 0 (by simp [sDL])).1]; exact hg0
    | succ j ih =>
      intro t mem hj hf hf2 hi
      have hp2 : mem.2.2 10005905 0 0 = some d := by rw [hf2]; exact hp1
      have hr2 := dkx mem hf
      have hst := hC.2.1 t (by omega)
      have hsWt := sW_le hsW (k := t) (by omega)
      have hdr := sp_X5_drive (H := rA sf se (z0 K) t) hr2 hW hp2 (by omega : t < K 40) hst.1 (by omega) hst.2 (fun i hi => hC.2.2.2 t (by omega) i hi) (ho t (by omega)) (fun p hp => by rw [rA_nj (by unfold jx; omega) hsWt, rA_nj (by unfold jx; omega) hsWt, z0_n (by unfold jx; omega), z0_n (by unfold jx; omega)]; exact ⟨rfl, rfl⟩) (by rw [rA_nj (by unfold jx; omega) hsWt, z0_n (by unfold jx; omega)]) hi
      refine pr_iload_n 12 dX5_survey_11 rfl rfl rfl ?_
      refine pr_aload_n 13 dX5_survey_12 rfl rfl rfl ?_
      refine pr_getP d 16 dX5_survey_13 fX5_56 hp2 rfl ?_
      refine pr_getI 19 dX5_survey_16 fX5_63 rfl ?_
      rw [hr2.desk.2.2.2.2.1]
      refine pr_icmp_ge 33 22 dX5_survey_19 rfl rfl (fun c_19 => absurd (c_19) (nI_ge (by omega) (by omega))) (fun c_19 => ?_)
      refine pr_aload_n 23 dX5_survey_22 rfl rfl rfl ?_
      refine pr_iload_n 24 dX5_survey_23 rfl rfl rfl ?_
      refine pr_inv0R1 27 dX5_survey_24 vX5_69 mX5_drive (hdr) ⟨Nat.le_of_ble_eq_true rfl, Nat.le_of_ble_eq_true rfl⟩ (Nat.le_of_ble_eq_true rfl) rfl (fun mem2 h2 => ?_)
      refine pr_iinc 30 dX5_survey_27 rfl (by first | exact pm_inc _ | rfl) (pm_st_2 rfl rfl) rfl ?_
      refine pr_goto 11 dX5_survey_30 rfl ?_
      exact ih (t + 1) mem2 (by omega) (hf.tr h2.1) (h2.2.1.trans hf2) h2.2.2
  refine Cl.of (own := RX5) rfl rfl (Nat.le_of_ble_eq_true rfl) rfl ?_; show PR _ _ _ _ _ _ [some _, some _, none] _ _ _
  refine pr_aload_n 1 dX5_survey_0 rfl rfl rfl ?_
  refine pr_aload_n 2 dX5_survey_1 rfl rfl rfl ?_
  refine pr_putP 5 dX5_survey_2 fX5_56 rfl rfl ?_
  refine pr_aload_n 6 dX5_survey_5 rfl rfl rfl ?_
  refine pr_inv0R0 9 dX5_survey_6 vX5_60 mX5_clear (sp_X5_clear) ⟨Nat.le_of_ble_eq_true rfl, Nat.le_of_ble_eq_true rfl⟩ (Nat.le_of_ble_eq_true rfl) rfl (fun mem1 h1 => ?_)
  refine pr_iconst (0) 10 dX5_survey_9 (by decide) rfl ?_
  refine pr_istore_n 11 dX5_survey_10 rfl (pm_st_2 rfl rfl) rfl ?_
  obtain ⟨⟨c1, c2, c3⟩, cA, cB, cC⟩ := h1
  have hfz : pm_fr sSv mem0 mem1 := (pm_fr.rf.uP (Or.inl ⟨by simp, rfl⟩)).tr (c1.mono (fun t i z => by
    rcases z with ⟨z, z'⟩ | z | z
    · left; simp at z ⊢; omega
    · exact Or.inr (Or.inl z.1)
    · exact Or.inr (Or.inr (Or.inl z.1))))
  refine lp1 mem1 (rdD.eq hr (fun t ht => (hfz t d (fun z => ?_)).1)) (by rw [c2, pm_gP, if_pos ⟨rfl, rfl, rfl⟩]) hfz c3 (fun l hl => ⟨(cB l hl).2.1, (cB l hl).2.2.1, (cB l hl).2.2.2⟩) (K 40) 0 mem1 (by omega) pm_fr.rf rfl ⟨fun u hu => ?_, fun a b ha hb => ?_, fun l hl => ?_, fun u l hu hl hb => ?_, fun u hu => absurd hu (Nat.not_lt_zero _), fun l hl => ?_⟩
  · simp [dkT] at ht
    simp [sSv] at z
    omega
  · obtain ⟨a1, a2, a3, a4⟩ := cA u hu
    rw [a1, a2, a4]
    show _ = nI (z0 K _) ∧ _ = nI (z0 K _) ∧ _ = nI (z0 K _)
    rw [z0_j (by unfold jx; omega), z0_j (by unfold jx; omega), z0_j (by unfold jx; omega)]
    exact ⟨rfl, rfl, rfl⟩
  · rw [cC a ha b hb]
    show _ = nI (z0 K _)
    rw [z0_j (by unfold jx; omega)]
    rfl
  · rw [(cB l hl).1]
    show _ = nI (z0 K _)
    rw [z0_j (by unfold jx; omega)]
    rfl
  · have hb' : (z0 K (106 + 6 * u)).testBit l = true := hb
    rw [z0_j (by unfold jx; omega), Nat.zero_testBit] at hb'
    cases hb'
  · rw [Nat.zero_testBit] at hl; cases hl
end SVY
