/-! Routes: gaps and hubs -/
def gapR (mem : pm_M) (G : List gG) : Prop := mem.1 10005905 0 12 = nI G.length ∧ ∀ (i : Nat) (q : gG), G[i]? = some q → mem.1 20288213 0 i = nI q.1 ∧ mem.1 20288214 0 i = nI q.2.1 ∧ mem.1 20288215 0 i = nI q.2.2
def sGp : Nat → Nat → Prop := fun t i => t ∈ [10005905, 20288213, 20288214, 20288215] ∧ i = 0
section RGA
variable {mem0 : pm_M} {d : Nat} {K : Nat → Nat} {G : List gG}
set_option maxRecDepth 100000 in
theorem sp_X5_addGap (hg : gapR mem0 G) (hl : G.length < 288) (a b c : Nat) : Cl yX5_addGap cX5_addGap 4 none 0 0 [pR 10005905 0, pI (nI a), pI (nI b), pI (nI c)] mem0 (fun r mem => r = none ∧ pm_fr sGp mem0 mem ∧ mem.2.2 = mem0.2.2 ∧ gapR mem (G ++ [(a, b, c)])) := by
  obtain ⟨g1, g2⟩ := hg
  refine Cl.of (own := RX5) rfl rfl (Nat.le_of_ble_eq_true rfl) rfl ?_; show PR _ _ _ _ _ _ [some _, some _, some _, some _] _ _ _
  refine pr_aload_n 1 dX5_addGap_0 rfl rfl rfl ?_
  refine pr_getI 4 dX5_addGap_1 fX5_85 rfl ?_
  rw [g1]
  refine pr_sipush (288) 7 dX5_addGap_4 (by decide) rfl ?_
  refine pr_icmp_ge 50 10 dX5_addGap_7 rfl rfl (fun c_7 => absurd (c_7) (nI_ge (b := 288) hl (by omega))) (fun c_7 => ?_)
  refine pr_aload_n 11 dX5_addGap_10 rfl rfl rfl ?_
  refine pr_getR0 14 dX5_addGap_11 fX5_47 rfl ?_
  refine pr_aload_n 15 dX5_addGap_14 rfl rfl rfl ?_
  refine pr_getI 18 dX5_addGap_15 fX5_85 rfl ?_
  rw [g1]
  refine pr_iload_n 19 dX5_addGap_18 rfl rfl rfl ?_
  refine pr_iastore (G.length) 20 dX5_addGap_19 rfl rfl rfl (by omega) rfl ?_
  refine pr_aload_n 21 dX5_addGap_20 rfl rfl rfl ?_
  refine pr_getR0 24 dX5_addGap_21 fX5_50 rfl ?_
  refine pr_aload_n 25 dX5_addGap_24 rfl rfl rfl ?_
  refine pr_getI 28 dX5_addGap_25 fX5_85 rfl ?_
  rw [pm_gIn (by simp), g1]
  refine pr_iload_n 29 dX5_addGap_28 rfl rfl rfl ?_
  refine pr_iastore (G.length) 30 dX5_addGap_29 rfl rfl rfl (by omega) rfl ?_
  refine pr_aload_n 31 dX5_addGap_30 rfl rfl rfl ?_
  refine pr_getR0 34 dX5_addGap_31 fX5_53 rfl ?_
  refine pr_aload_n 35 dX5_addGap_34 rfl rfl rfl ?_
  refine pr_getI 38 dX5_addGap_35 fX5_85 rfl ?_
  rw [pm_gIn (by simp), pm_gIn (by simp), g1]
  refine pr_iload_n 39 dX5_addGap_38 rfl rfl rfl ?_
  refine pr_iastore (G.length) 40 dX5_addGap_39 rfl rfl rfl (by omega) rfl ?_
  refine pr_aload_n 41 dX5_addGap_40 rfl rfl rfl ?_
  refine pr_dup rfl 42 dX5_addGap_41 rfl ?_
  refine pr_getI 45 dX5_addGap_42 fX5_85 rfl ?_
  rw [pm_gIn (by simp), pm_gIn (by simp), pm_gIn (by simp), g1]
  refine pr_iconst (1) 46 dX5_addGap_45 (by decide) rfl ?_
  refine pr_iadd 47 dX5_addGap_46 rfl ?_
  rw [show (1 : Int32) = nI 1 from rfl, nI_add]
  refine pr_putI 50 dX5_addGap_47 fX5_85 rfl ?_
  refine pr_return dX5_addGap_50 rfl ?_
  refine ⟨rfl, (((pm_fr.rf.uI ⟨by simp, rfl⟩).uI ⟨by simp, rfl⟩).uI ⟨by simp, rfl⟩).uI ⟨by simp, rfl⟩, rfl, by rw [pm_gIe, List.length_append]; rfl, fun i q hq => ?_⟩
  simp only [pm_gI]
  rcases Nat.lt_or_ge i G.length with z | z
  · rw [List.getElem?_append_left z] at hq
    have y : ¬ i = G.length := by omega
    obtain ⟨q1, q2, q3⟩ := g2 i q hq
    simp [y, q1, q2, q3]
  · rw [List.getElem?_append_right z] at hq
    have y : i = G.length := by
      have := (List.getElem?_eq_some_iff.mp hq).1
      simp at this
      omega
    subst y
    simp at hq
    subst hq
    simp
def sGl : Nat → Nat → Prop := fun t i => t ∈ [10005905, 20288213, 20288214, 20288215, 20016210, 20016211] ∧ i = 0
set_option maxRecDepth 100000 in
theorem sp_X5_addGapOfLoad (hd : deskR mem0 d K) (hW : WF K) (hp : mem0.2.2 10005905 0 0 = some d) (hg : gapR mem0 G) (hl : G.length < 288) {l b c n s : Nat} (hl16 : l < 16) (hb : b < K 37) (hc : c < K 37) (hn : mem0.1 20016210 0 l = nI n) (hs : mem0.1 20016211 0 l = nI s) : Cl yX5_addGapOfLoad cX5_addGapOfLoad 4 none 2 44 [pR 10005905 0, pI (nI l), pI (nI b), pI (nI c)] mem0 (fun r mem => r = none ∧ pm_fr sGl mem0 mem ∧ mem.2.2 = mem0.2.2 ∧ gapR mem (G ++ [(100 + l, b, c)]) ∧ mem.1 20016210 0 l = nI (n + 1) ∧ mem.1 20016211 0 l = nI (s + dd K b c) ∧ ∀ u, u ≠ l → mem.1 20016210 0 u = mem0.1 20016210 0 u ∧ mem.1 20016211 0 u = mem0.1 20016211 0 u) := by
  refine Cl.of (own := RX5) rfl rfl (Nat.le_of_ble_eq_true rfl) rfl ?_; show PR _ _ _ _ _ _ [some _, some _, some _, some _] _ _ _
  refine pr_aload_n 1 dX5_addGapOfLoad_0 rfl rfl rfl ?_
  refine pr_bipush (100) 3 dX5_addGapOfLoad_1 (by decide) rfl ?_
  refine pr_iload_n 4 dX5_addGapOfLoad_3 rfl rfl rfl ?_
  refine pr_iadd 5 dX5_addGapOfLoad_4 rfl ?_
  rw [show (100 : Int32) = nI 100 from rfl, nI_add]
  refine pr_iload_n 6 dX5_addGapOfLoad_5 rfl rfl rfl ?_
  refine pr_iload_n 7 dX5_addGapOfLoad_6 rfl rfl rfl ?_
  refine pr_inv0R3 10 dX5_addGapOfLoad_7 vX5_115 mX5_addGap (sp_X5_addGap hg hl (100 + l) b c) ⟨Nat.le_of_ble_eq_true rfl, Nat.le_of_ble_eq_true rfl⟩ (Nat.le_of_ble_eq_true rfl) rfl (fun mem1 h1 => ?_)
  obtain ⟨j1, j2, j3⟩ := h1
  have hn1 : mem1.1 20016210 0 l = nI n := by rw [(j1 20016210 0 (by simp [sGp])).1]; exact hn
  have hs1 : mem1.1 20016211 0 l = nI s := by rw [(j1 20016211 0 (by simp [sGp])).1]; exact hs
  have hp1 : mem1.2.2 10005905 0 0 = some d := by rw [j2]; exact hp
  refine pr_aload_n 11 dX5_addGapOfLoad_10 rfl rfl rfl ?_
  refine pr_getR0 14 dX5_addGapOfLoad_11 fX5_41 rfl ?_
  refine pr_iload_n 15 dX5_addGapOfLoad_14 rfl rfl rfl ?_
  refine pr_dup2 rfl rfl 16 dX5_addGapOfLoad_15 rfl ?_
  refine pr_iaload l 17 dX5_addGapOfLoad_16 rfl rfl rfl (by omega) rfl ?_
  rw [hn1]
  refine pr_iconst (1) 18 dX5_addGapOfLoad_17 (by decide) rfl ?_
  refine pr_iadd 19 dX5_addGapOfLoad_18 rfl ?_
  rw [show (1 : Int32) = nI 1 from rfl, nI_add]
  refine pr_iastore l 20 dX5_addGapOfLoad_19 rfl rfl rfl (by omega) rfl ?_
  refine pr_aload_n 21 dX5_addGapOfLoad_20 rfl rfl rfl ?_
  refine pr_getR0 24 dX5_addGapOfLoad_21 fX5_44 rfl ?_
  refine pr_iload_n 25 dX5_addGapOfLoad_24 rfl rfl rfl ?_
  refine pr_dup2 rfl rfl 26 dX5_addGapOfLoad_25 rfl ?_
  refine pr_iaload l 27 dX5_addGapOfLoad_26 rfl rfl rfl (by omega) rfl ?_
  rw [pm_gIn (by simp), hs1]
  refine pr_aload_n 28 dX5_addGapOfLoad_27 rfl rfl rfl ?_
  refine pr_getP d 31 dX5_addGapOfLoad_28 fX5_56 hp1 rfl ?_
  refine pr_iload_n 32 dX5_addGapOfLoad_31 rfl rfl rfl ?_
  refine pr_iload_n 33 dX5_addGapOfLoad_32 rfl rfl rfl ?_
  refine pr_invD2 36 dX5_addGapOfLoad_33 vX5_108 mX0_distance ((hd.fr (S := sGl) (mem := pm_uI mem1 20016210 0 l (nI (n + 1))) ((j1.mono (fun t i h => ⟨by have := h.1; simp at this ⊢; rcases this with z | z | z | z <;> simp [z], h.2⟩)).uI ⟨by simp, rfl⟩) (by simp [sGl])).dist hW hb hc) ⟨Nat.le_of_ble_eq_true rfl, Nat.le_of_ble_eq_true rfl⟩ (Nat.le_of_ble_eq_true rfl) rfl ?_
  refine pr_iadd 37 dX5_addGapOfLoad_36 rfl ?_
  rw [nI_add]
  refine pr_iastore l 38 dX5_addGapOfLoad_37 rfl rfl rfl (by omega) rfl ?_
  refine pr_return dX5_addGapOfLoad_38 rfl ?_
  have jf : pm_fr sGl mem0 mem1 := j1.mono (fun t i h => ⟨by have := h.1; simp at this ⊢; rcases this with z | z | z | z <;> simp [z], h.2⟩)
  refine ⟨rfl, (jf.uI ⟨by simp, rfl⟩).uI ⟨by simp, rfl⟩, j2, ⟨?_, fun i q hq => ?_⟩, ?_, ?_, fun u hu => ?_⟩
  · rw [pm_gIn (by simp), pm_gIn (by simp)]; exact j3.1
  · have := j3.2 i q hq
    rw [pm_gIn (by simp), pm_gIn (by simp), pm_gIn (by simp), pm_gIn (by simp), pm_gIn (by simp), pm_gIn (by simp)]
    exact this
  · rw [pm_gIn (by simp), pm_gIe]
  · rw [pm_gIe]
  · rw [pm_gIn (by simp), pm_gIn (fun y => hu y.2.2), pm_gIn (fun y => hu y.2.2), pm_gIn (by simp), (j1 20016210 0 (by simp [sGp])).1, (j1 20016211 0 (by simp [sGp])).1]
    exact ⟨rfl, rfl⟩
theorem gapR.fr {S : Nat → Nat → Prop} {mem : pm_M} (h : gapR mem0 G) (hf : pm_fr S mem0 mem) (h1 : ∀ t ∈ [10005905, 20288213, 20288214, 20288215], ¬ S t 0) : gapR mem G := by
  simp only [List.forall_mem_cons] at h1
  obtain ⟨q1, q2, q3, q4, -⟩ := h1
  unfold gapR
  rw [(hf _ _ q1).1, (hf _ _ q2).1, (hf _ _ q3).1, (hf _ _ q4).1]
  exact h
theorem onI_none {x : Option Nat} {n : Nat} (h : ∀ a, x = some a → a < n) (hn : n < 1000) : onI x = -1 ↔ x = none := by
  cases x with
  | none => simp [onI]
  | some u =>
    have := h u rfl
    simp only [onI]
    constructor
    · intro z
      have z2 := congrArg Int32.toInt z
      rw [nI_toInt (by omega), show (-1 : Int32).toInt = -1 from rfl] at z2
      omega
    · intro z; cases z
set_option maxRecDepth 100000 in
theorem sp_X5_findGapsOfTruck (hd : deskR mem0 d K) (hr : routR mem0 K) (hW : WF K) (hp : mem0.2.2 10005905 0 0 = some d) {k : Nat} (hk : k < 4) (hg : gapR mem0 (gks K k)) : Cl yX5_findGapsOfTruck cX5_findGapsOfTruck 4 none 1 23 [pR 10005905 0, pI (nI k)] mem0 (fun r mem => r = none ∧ pm_fr sGp mem0 mem ∧ mem.2.2 = mem0.2.2 ∧ gapR mem (gks K (k + 1))) := by
  have h16 := hW.2.2.2.2.1
  have h4 := hW.2.2.1
  have h12 := hW.2.1
  have lp : ∀ j t mem, t + j = K 40 → pm_fr sGp mem0 mem → mem.2.2 = mem0.2.2 → gapR mem (gks K k ++ gk K k t) → PR cX5_findGapsOfTruck RX5 4 1 23 4 [some (pR 10005905 0), some (pI (nI k)), some (pI (onI (lt K k t))), some (pI (nI t))] [] mem (pm_RX cX5_findGapsOfTruck none (fun r mem => r = none ∧ pm_fr sGp mem0 mem ∧ mem.2.2 = mem0.2.2 ∧ gapR mem (gks K (k + 1)))) := by
    intro j
    induction j with
    | zero =>
      intro t mem hj i1 i2 i3
      have e : t = K 40 := by omega
      subst e
      have hd1 := hd.fr i1 (by simp [sGp])
      have hp1 : mem.2.2 10005905 0 0 = some d := by rw [i2]; exact hp
      refine pr_iload_n 5 dX5_findGapsOfTruck_4 rfl rfl rfl ?_
      refine pr_aload_n 6 dX5_findGapsOfTruck_5 rfl rfl rfl ?_
      refine pr_getP d 9 dX5_findGapsOfTruck_6 fX5_56 hp1 rfl ?_
      refine pr_getI 12 dX5_findGapsOfTruck_9 fX5_63 rfl ?_
      rw [hd1.2.2.2.2.1]
      refine pr_icmp_ge 77 15 dX5_findGapsOfTruck_12 rfl rfl (fun c_12 => ?_) (fun c_12 => absurd (Int32.le_refl _) (c_12))
      refine pr_return dX5_findGapsOfTruck_77 rfl ?_
      exact ⟨rfl, i1, i2, i3⟩
    | succ j ih =>
      intro t mem hj i1 i2 i3
      have hd1 := hd.fr i1 (by simp [sGp])
      have hr1 := hr.fr i1 (by simp [sGp])
      have hp1 : mem.2.2 10005905 0 0 = some d := by rw [i2]; exact hp
      obtain ⟨b1, b2, b3⟩ := hd1.2.2.2.2.2.2.2.2 t (by omega)
      obtain ⟨a1, a2, a3, a4, a5, a6⟩ := hW.2.2.2.2.2.2.2.2.1 t (by omega)
      obtain ⟨c1, c2, c3, c4⟩ := hr1.1 t (by omega)
      have hlt : ∀ a, lt K k t = some a → a < K 37 := fun a ha => lt_lt hW (by omega) ha
      have hon := onI_none hlt (by omega)
      have tail : ∀ mem, K (101 + 6 * t) = k → pm_fr sGp mem0 mem → mem.2.2 = mem0.2.2 → gapR mem (gks K k ++ gk K k (t + 1)) → ∀ a2, PR cX5_findGapsOfTruck RX5 4 1 23 64 [some (pR 10005905 0), some (pI (nI k)), some (pI a2), some (pI (nI t))] [] mem (pm_RX cX5_findGapsOfTruck none (fun r mem => r = none ∧ pm_fr sGp mem0 mem ∧ mem.2.2 = mem0.2.2 ∧ gapR mem (gks K (k + 1)))) := by
        intro mem hof g1 g2 g3 a2
        have hr2 := hr.fr g1 (by simp [sGp])
        refine pr_aload_n 65 dX5_findGapsOfTruck_64 rfl rfl rfl ?_
        refine pr_getR0 68 dX5_findGapsOfTruck_65 fX5_18 rfl ?_
        refine pr_iload_n 69 dX5_findGapsOfTruck_68 rfl rfl rfl ?_
        refine pr_iaload t 70 dX5_findGapsOfTruck_69 rfl rfl rfl (by omega) rfl ?_
        rw [(hr2.1 t (by omega)).2.2.1]
        refine pr_istore_n 71 dX5_findGapsOfTruck_70 rfl (pm_st_2 rfl rfl) rfl ?_
        refine pr_iinc 74 dX5_findGapsOfTruck_71 rfl (by first | exact pm_inc _ | rfl) (pm_st_3 rfl rfl) rfl ?_
        refine pr_goto 4 dX5_findGapsOfTruck_74 rfl ?_
        have := ih (t + 1) mem (by omega) g1 g2 g3
        rw [show lt K k (t + 1) = some (K (105 + 6 * t)) by rw [lt, if_pos hof]] at this
        exact this
      refine pr_iload_n 5 dX5_findGapsOfTruck_4 rfl rfl rfl ?_
      refine pr_aload_n 6 dX5_findGapsOfTruck_5 rfl rfl rfl ?_
      refine pr_getP d 9 dX5_findGapsOfTruck_6 fX5_56 hp1 rfl ?_
      refine pr_getI 12 dX5_findGapsOfTruck_9 fX5_63 rfl ?_
      rw [hd1.2.2.2.2.1]
      refine pr_icmp_ge 77 15 dX5_findGapsOfTruck_12 rfl rfl (fun c_12 => absurd (c_12) (nI_ge (by omega) (by omega))) (fun c_12 => ?_)
      refine pr_aload_n 16 dX5_findGapsOfTruck_15 rfl rfl rfl ?_
      refine pr_getP d 19 dX5_findGapsOfTruck_16 fX5_56 hp1 rfl ?_
      refine pr_getR0 22 dX5_findGapsOfTruck_19 fX5_112 rfl ?_
      refine pr_iload_n 23 dX5_findGapsOfTruck_22 rfl rfl rfl ?_
      refine pr_iaload t 24 dX5_findGapsOfTruck_23 rfl rfl rfl (by omega) rfl ?_
      rw [b1]
      refine pr_iload_n 25 dX5_findGapsOfTruck_24 rfl rfl rfl ?_
      refine pr_icmp_eq 31 28 dX5_findGapsOfTruck_25 rfl rfl (fun c_25 => ?_) (fun c_25 => ?_)
      · rw [nI_eq (by omega) (by omega)] at c_25
        refine pr_iload_n 32 dX5_findGapsOfTruck_31 rfl rfl rfl ?_
        refine pr_iconst (-1) 33 dX5_findGapsOfTruck_32 (by decide) rfl ?_
        refine pr_icmp_eq 64 36 dX5_findGapsOfTruck_33 rfl rfl (fun c_33 => ?_) (fun c_33 => ?_)
        · rw [hon] at c_33
          refine tail mem c_25 i1 i2 ?_ _
          rw [gk, if_neg (fun z => z.2 (by rw [c_33]; rfl))]
          exact i3
        · rw [hon] at c_33
          obtain ⟨u, hu⟩ : ∃ u, lt K k t = some u := by
            cases hh : lt K k t with
            | none => exact absurd hh c_33
            | some u => exact ⟨u, rfl⟩
          have hul := hlt u hu
          rw [hu]
          refine pr_iload_n 37 dX5_findGapsOfTruck_36 rfl (show _ = some (some (pI (nI u))) from rfl) rfl ?_
          refine pr_aload_n 38 dX5_findGapsOfTruck_37 rfl rfl rfl ?_
          refine pr_getP d 41 dX5_findGapsOfTruck_38 fX5_56 hp1 rfl ?_
          refine pr_getR0 44 dX5_findGapsOfTruck_41 fX5_88 rfl ?_
          refine pr_iload_n 45 dX5_findGapsOfTruck_44 rfl rfl rfl ?_
          refine pr_iaload t 46 dX5_findGapsOfTruck_45 rfl rfl rfl (by omega) rfl ?_
          rw [b3]
          refine pr_icmp_eq 64 49 dX5_findGapsOfTruck_46 rfl rfl (fun c_46 => ?_) (fun c_46 => ?_)
          · rw [nI_eq (by omega) (by omega)] at c_46
            refine tail mem c_25 i1 i2 ?_ _
            rw [gk, if_neg (fun z => z.2 (by rw [hu]; exact c_46))]
            exact i3
          · rw [nI_eq (by omega) (by omega)] at c_46
            refine pr_aload_n 50 dX5_findGapsOfTruck_49 rfl rfl rfl ?_
            refine pr_iload_n 51 dX5_findGapsOfTruck_50 rfl rfl rfl ?_
            refine pr_iload_n 52 dX5_findGapsOfTruck_51 rfl (show _ = some (some (pI (nI u))) from rfl) rfl ?_
            refine pr_aload_n 53 dX5_findGapsOfTruck_52 rfl rfl rfl ?_
            refine pr_getP d 56 dX5_findGapsOfTruck_53 fX5_56 hp1 rfl ?_
            refine pr_getR0 59 dX5_findGapsOfTruck_56 fX5_88 rfl ?_
            refine pr_iload_n 60 dX5_findGapsOfTruck_59 rfl rfl rfl ?_
            refine pr_iaload t 61 dX5_findGapsOfTruck_60 rfl rfl rfl (by omega) rfl ?_
            rw [b3]
            refine pr_inv0R3 64 dX5_findGapsOfTruck_61 vX5_115 mX5_addGap (sp_X5_addGap i3 (by rw [List.length_append]; have := gkk_len (K := K) k (t := t) (by omega); omega) k u (K (104 + 6 * t))) ⟨Nat.le_of_ble_eq_true rfl, Nat.le_of_ble_eq_true rfl⟩ (Nat.le_of_ble_eq_true rfl) rfl (fun mem1 h1 => ?_)
            refine tail mem1 c_25 (i1.tr h1.1) (h1.2.1.trans i2) ?_ _
            rw [gk, if_pos ⟨c_25, by rw [hu]; exact c_46⟩, ← List.append_assoc, hu]
            exact h1.2.2
      · rw [nI_eq (by omega) (by omega)] at c_25
        refine pr_goto 71 dX5_findGapsOfTruck_28 rfl ?_
        refine pr_iinc 74 dX5_findGapsOfTruck_71 rfl (by first | exact pm_inc _ | rfl) (pm_st_3 rfl rfl) rfl ?_
        refine pr_goto 4 dX5_findGapsOfTruck_74 rfl ?_
        have := ih (t + 1) mem (by omega) i1 i2 (by rw [gk, if_neg (fun z => c_25 z.1)]; exact i3)
        rw [show lt K k (t + 1) = lt K k t by rw [lt, if_neg c_25]] at this
        exact this
  refine Cl.of (own := RX5) rfl rfl (Nat.le_of_ble_eq_true rfl) rfl ?_; show PR _ _ _ _ _ _ [some _, some _, none, none] _ _ _
  refine pr_iconst (-1) 1 dX5_findGapsOfTruck_0 (by decide) rfl ?_
  refine pr_istore_n 2 dX5_findGapsOfTruck_1 rfl (pm_st_2 rfl rfl) rfl ?_
  refine pr_iconst (0) 3 dX5_findGapsOfTruck_2 (by decide) rfl ?_
  refine pr_istore_n 4 dX5_findGapsOfTruck_3 rfl (pm_st_3 rfl rfl) rfl ?_
  exact lp (K 40) 0 mem0 (by omega) pm_fr.rf rfl (by rw [gk, List.append_nil]; exact hg)
/-- a load followed, up to trip t -/
def foL (mem0 mem : pm_M) (l : Nat) (K : Nat → Nat) (G A : List gG) (c : Nat → Nat) : Prop :=
  pm_fr (fun t i => (t ∈ [10005905, 20288213, 20288214, 20288215, 20016210, 20016211] ∧ i = 0) ∨ (t = 20012608 ∧ i = l)) mem0 mem ∧ mem.2.2 = mem0.2.2 ∧ gapR mem (G ++ A) ∧ mem.1 20016210 0 l = nI A.length ∧ mem.1 20016211 0 l = nI (gsm K A) ∧ (∀ p, p < 12 → mem.1 20012608 l p = nI (c p)) ∧ ∀ u, u ≠ l → mem.1 20016210 0 u = mem0.1 20016210 0 u ∧ mem.1 20016211 0 u = mem0.1 20016211 0 u
set_option maxRecDepth 100000 in
theorem foL.add {mem mem1 : pm_M} {l b c' : Nat} {A : List gG} {c : Nat → Nat} (h : foL mem0 mem l K G A c) (j : pm_fr sGl mem mem1 ∧ mem1.2.2 = mem.2.2 ∧ gapR mem1 ((G ++ A) ++ [(100 + l, b, c')]) ∧ mem1.1 20016210 0 l = nI (A.length + 1) ∧ mem1.1 20016211 0 l = nI (gsm K A + dd K b c') ∧ ∀ u, u ≠ l → mem1.1 20016210 0 u = mem.1 20016210 0 u ∧ mem1.1 20016211 0 u = mem.1 20016211 0 u) : foL mem0 mem1 l K G (A ++ [(100 + l, b, c')]) c := by
  obtain ⟨h1, h2, h3, h4, h5, h6, h7⟩ := h
  obtain ⟨j1, j2, j3, j4, j5, j6⟩ := j
  refine ⟨h1.tr (j1.mono (fun t i z => Or.inl z)), j2.trans h2, by rw [← List.append_assoc]; exact j3, by rw [List.length_append]; exact j4, by rw [gsm_app]; exact j5, fun p hp => ?_, fun u hu => ⟨(j6 u hu).1.trans (h7 u hu).1, (j6 u hu).2.trans (h7 u hu).2⟩⟩
  rw [(j1 20012608 l (by simp [sGl])).1]
  exact h6 p hp
set_option maxRecDepth 100000 in
theorem sp_X5_followLoad (hd : deskR mem0 d K) (hr : routR mem0 K) (hW : WF K) (hp : mem0.2.2 10005905 0 0 = some d) {l : Nat} (hl : l < K 39) (hg : gapR mem0 (gks K (K 38) ++ gls K l)) (h0 : mem0.1 20016210 0 l = 0) (h00 : mem0.1 20016211 0 l = 0) (hch : ∀ p, p < 12 → mem0.1 20012608 l p = 0) : Cl yX5_followLoad cX5_followLoad 6 none 3 67 [pR 10005905 0, pI (nI l)] mem0 (fun r mem => r = none ∧ foL mem0 mem l K (gks K (K 38) ++ gls K l) (gla K l) (fun p => ch K l p (K 40))) := by
  have h16 := hW.2.2.2.2.1
  have hn16 := hW.2.2.2.1
  have h12 := hW.2.1
  have hglen : (gks K (K 38) ++ gls K l).length + 17 ≤ 288 := by
    rw [List.length_append]
    have a1 := gks_le K (K 38)
    have a2 := gls_len K l
    have a3 : l * (K 40 + 1) ≤ 15 * 17 := Nat.mul_le_mul (by omega) (by omega)
    omega
  have hB : ∀ mem, foL mem0 mem l K (gks K (K 38) ++ gls K l) (gl K l (K 40)) (fun p => ch K l p (K 40)) → ∀ a3 a4 a5, PR cX5_followLoad RX5 6 3 67 106 [some (pR 10005905 0), some (pI (nI l)), some (pI (nI ((lo K l (K 40)).getD (K (69 + l))))), a3, a4, a5] [] mem (pm_RX cX5_followLoad none (fun r mem => r = none ∧ foL mem0 mem l K (gks K (K 38) ++ gls K l) (gla K l) (fun p => ch K l p (K 40)))) := by
    intro mem hi a3 a4 a5
    have hi' := hi
    obtain ⟨i1, i2, i3, i4, i5, i6, i7⟩ := hi'
    have hd1 := hd.fr i1 (by simp)
    have hp1 : mem.2.2 10005905 0 0 = some d := by rw [i2]; exact hp
    obtain ⟨-, e2, e3⟩ := hd1.2.2.2.2.2.2.2.1 l hl
    obtain ⟨-, f2, f3⟩ := hW.2.2.2.2.2.2.2.1 l hl
    have hlg := lo_get hW hl (Nat.le_refl (K 40))
    have hgl := gl_len K l (K 40)
    refine pr_iload_n 107 dX5_followLoad_106 rfl rfl rfl ?_
    refine pr_aload_n 108 dX5_followLoad_107 rfl rfl rfl ?_
    refine pr_getP d 111 dX5_followLoad_108 fX5_56 hp1 rfl ?_
    refine pr_getR0 114 dX5_followLoad_111 fX5_125 rfl ?_
    refine pr_iload_n 115 dX5_followLoad_114 rfl rfl rfl ?_
    refine pr_iaload l 116 dX5_followLoad_115 rfl rfl rfl (by omega) rfl ?_
    rw [e3]
    refine pr_icmp_eq 134 119 dX5_followLoad_116 rfl rfl (fun c_116 => ?_) (fun c_116 => ?_)
    · rw [nI_eq (by omega) (by omega)] at c_116
      refine pr_return dX5_followLoad_134 rfl ?_
      refine ⟨rfl, ?_⟩
      rw [show gla K l = gl K l (K 40) from if_pos c_116]
      exact hi
    · rw [nI_eq (by omega) (by omega)] at c_116
      refine pr_aload_n 120 dX5_followLoad_119 rfl rfl rfl ?_
      refine pr_iload_n 121 dX5_followLoad_120 rfl rfl rfl ?_
      refine pr_iload_n 122 dX5_followLoad_121 rfl rfl rfl ?_
      refine pr_aload_n 123 dX5_followLoad_122 rfl rfl rfl ?_
      refine pr_getP d 126 dX5_followLoad_123 fX5_56 hp1 rfl ?_
      refine pr_getR0 129 dX5_followLoad_126 fX5_125 rfl ?_
      refine pr_iload_n 130 dX5_followLoad_129 rfl rfl rfl ?_
      refine pr_iaload l 131 dX5_followLoad_130 rfl rfl rfl (by omega) rfl ?_
      rw [e3]
      refine pr_inv0R3 134 dX5_followLoad_131 vX5_122 mX5_addGapOfLoad (sp_X5_addGapOfLoad hd1 hW hp1 i3 (by rw [List.length_append] at hglen ⊢; rw [List.length_append]; omega) (by omega) hlg f3 i4 i5) ⟨Nat.le_of_ble_eq_true rfl, Nat.le_of_ble_eq_true rfl⟩ (Nat.le_of_ble_eq_true rfl) rfl (fun mem1 h1 => ?_)
      refine pr_return dX5_followLoad_134 rfl ?_
      refine ⟨rfl, ?_⟩
      rw [show gla K l = gl K l (K 40) ++ [(100 + l, (lo K l (K 40)).getD (K (69 + l)), K (85 + l))] from if_neg c_116]
      exact hi.add h1
  have lp : ∀ j t mem a5, t + j = K 40 → foL mem0 mem l K (gks K (K 38) ++ gls K l) (gl K l t) (fun p => ch K l p t) → PR cX5_followLoad RX5 6 3 67 15 [some (pR 10005905 0), some (pI (nI l)), some (pI (nI ((lo K l t).getD (K (69 + l))))), some (pI (if (lo K l t).isSome = true then 1 else 0)), some (pI (nI t)), a5] [] mem (pm_RX cX5_followLoad none (fun r mem => r = none ∧ foL mem0 mem l K (gks K (K 38) ++ gls K l) (gla K l) (fun p => ch K l p (K 40)))) := by
    intro j
    induction j with
    | zero =>
      intro t mem a5 hj hi
      have e : t = K 40 := by omega
      subst e
      have hd1 := hd.fr hi.1 (by simp)
      have hp1 : mem.2.2 10005905 0 0 = some d := by rw [hi.2.1]; exact hp
      refine pr_iload 17 dX5_followLoad_15 rfl rfl ?_
      refine pr_aload_n 18 dX5_followLoad_17 rfl rfl rfl ?_
      refine pr_getP d 21 dX5_followLoad_18 fX5_56 hp1 rfl ?_
      refine pr_getI 24 dX5_followLoad_21 fX5_63 rfl ?_
      rw [hd1.2.2.2.2.1]
      refine pr_icmp_ge 106 27 dX5_followLoad_24 rfl rfl (fun c_24 => ?_) (fun c_24 => absurd (Int32.le_refl _) (c_24))
      exact hB mem hi _ _ _
    | succ j ih =>
      intro t mem a5 hj hi
      have hi' := hi
      obtain ⟨i1, i2, i3, i4, i5, i6, i7⟩ := hi'
      have hd1 := hd.fr i1 (by simp)
      have hr1 := hr.fr i1 (by simp)
      have hp1 : mem.2.2 10005905 0 0 = some d := by rw [i2]; exact hp
      have hlg := lo_get hW hl (t := t) (by omega)
      have hgl := gl_len K l t
      have hbit := nI_shr1 (w := K (106 + 6 * t)) (l := l) (by omega)
      have tail : ∀ mem, bit K t l = true → foL mem0 mem l K (gks K (K 38) ++ gls K l) (gl K l (t + 1)) (fun p => ch K l p (t + 1)) → ∀ a2 a3 a5, PR cX5_followLoad RX5 6 3 67 88 [some (pR 10005905 0), some (pI (nI l)), some (pI a2), some (pI a3), some (pI (nI t)), a5] [] mem (pm_RX cX5_followLoad none (fun r mem => r = none ∧ foL mem0 mem l K (gks K (K 38) ++ gls K l) (gla K l) (fun p => ch K l p (K 40)))) := by
        intro mem hb g1 a2 a3 a5
        have hr2 := hr.fr g1.1 (by simp)
        refine pr_aload_n 89 dX5_followLoad_88 rfl rfl rfl ?_
        refine pr_getR0 92 dX5_followLoad_89 fX5_29 rfl ?_
        refine pr_iload 94 dX5_followLoad_92 rfl rfl ?_
        first | refine pr_aaload0 (n := 16) t 20016606 95 dX5_followLoad_94 rfl rfl rfl rfl (by omega) rfl ?_ | refine pr_aaload (n := 16) t 20016606 95 dX5_followLoad_94 rfl rfl rfl rfl (by omega) rfl ?_
        refine pr_iload_n 96 dX5_followLoad_95 rfl rfl rfl ?_
        refine pr_iaload l 97 dX5_followLoad_96 rfl rfl rfl (by omega) rfl ?_
        rw [(hr2.2 t l (by omega) hb).2]
        refine pr_istore_n 98 dX5_followLoad_97 rfl (pm_st_2 rfl rfl) rfl ?_
        refine pr_iconst (1) 99 dX5_followLoad_98 (by decide) rfl ?_
        refine pr_istore_n 100 dX5_followLoad_99 rfl (pm_st_3 rfl rfl) rfl ?_
        refine pr_iinc 103 dX5_followLoad_100 rfl (by first | exact pm_inc _ | rfl) (pm_st_4 rfl rfl) rfl ?_
        refine pr_goto 15 dX5_followLoad_103 rfl ?_
        have := ih (t + 1) mem a5 (by omega) g1
        rw [show lo K l (t + 1) = some (K (453 + 16 * t + l)) by rw [lo, if_pos hb]] at this
        exact this
      refine pr_iload 17 dX5_followLoad_15 rfl rfl ?_
      refine pr_aload_n 18 dX5_followLoad_17 rfl rfl rfl ?_
      refine pr_getP d 21 dX5_followLoad_18 fX5_56 hp1 rfl ?_
      refine pr_getI 24 dX5_followLoad_21 fX5_63 rfl ?_
      rw [hd1.2.2.2.2.1]
      refine pr_icmp_ge 106 27 dX5_followLoad_24 rfl rfl (fun c_24 => absurd (c_24) (nI_ge (by omega) (by omega))) (fun c_24 => ?_)
      refine pr_aload_n 28 dX5_followLoad_27 rfl rfl rfl ?_
      refine pr_getR0 31 dX5_followLoad_28 fX5_21 rfl ?_
      refine pr_iload 33 dX5_followLoad_31 rfl rfl ?_
      refine pr_iaload t 34 dX5_followLoad_33 rfl rfl rfl (by omega) rfl ?_
      rw [(hr1.1 t (by omega)).2.2.2]
      refine pr_iload_n 35 dX5_followLoad_34 rfl rfl rfl ?_
      refine pr_ishr 36 dX5_followLoad_35 rfl ?_
      refine pr_iconst (1) 37 dX5_followLoad_36 (by decide) rfl ?_
      refine pr_iand 38 dX5_followLoad_37 rfl ?_
      rw [hbit]
      refine pr_if_ne 44 41 dX5_followLoad_38 rfl rfl (fun c_38 => ?_) (fun c_38 => ?_)
      · have hb : bit K t l = true := by
          unfold bit
          exact Decidable.byContradiction (fun z => c_38 (by rw [if_neg z]; rfl))
        obtain ⟨b1, b2, b3⟩ := hW.2.2.2.2.2.2.2.2.2 t l (by omega) hb
        obtain ⟨e1, e2⟩ := hr1.2 t l (by omega) hb
        refine pr_aload_n 45 dX5_followLoad_44 rfl rfl rfl ?_
        refine pr_getR0 48 dX5_followLoad_45 fX5_26 rfl ?_
        refine pr_iload 50 dX5_followLoad_48 rfl rfl ?_
        first | refine pr_aaload0 (n := 16) t 20016605 51 dX5_followLoad_50 rfl rfl rfl rfl (by omega) rfl ?_ | refine pr_aaload (n := 16) t 20016605 51 dX5_followLoad_50 rfl rfl rfl rfl (by omega) rfl ?_
        refine pr_iload_n 52 dX5_followLoad_51 rfl rfl rfl ?_
        refine pr_iaload l 53 dX5_followLoad_52 rfl rfl rfl (by omega) rfl ?_
        rw [e1]
        refine pr_istore 55 dX5_followLoad_53 (pm_st_5 rfl rfl) rfl ?_
        refine pr_iload 57 dX5_followLoad_55 rfl rfl ?_
        refine pr_iload_n 58 dX5_followLoad_57 rfl rfl rfl ?_
        refine pr_icmp_eq 72 61 dX5_followLoad_58 rfl rfl (fun c_58 => ?_) (fun c_58 => ?_)
        · rw [nI_eq (by omega) (by omega)] at c_58
          have hsz : (if (lo K l t).isSome = true then (1 : Int32) else 0) = 0 ↔ lo K l t = none := by
            cases lo K l t <;> simp
          refine pr_iload_n 73 dX5_followLoad_72 rfl rfl rfl ?_
          refine pr_if_eq 88 76 dX5_followLoad_73 rfl rfl (fun c_73 => ?_) (fun c_73 => ?_)
          · rw [hsz] at c_73
            refine tail mem hb ?_ _ _ _
            rw [gl, if_neg (fun z => z.2 c_58.symm)]
            refine ⟨i1, i2, i3, i4, i5, fun p hp => ?_, i7⟩
            show _ = nI (ch K l p (t + 1))
            rw [i6 p hp, ch_s, if_neg (fun z => by rw [c_73] at z; cases z.2.1), Nat.add_zero]
          · rw [hsz] at c_73
            obtain ⟨u, hu⟩ : ∃ u, lo K l t = some u := by
              cases hh : lo K l t with
              | none => exact absurd hh c_73
              | some u => exact ⟨u, rfl⟩
            rw [hu] at hlg c_58
            rw [hu]
            have hlg : u < K 37 := hlg
            have c_58 : K (197 + 16 * t + l) = u := c_58
            refine pr_aload_n 77 dX5_followLoad_76 rfl rfl rfl ?_
            refine pr_getR0 80 dX5_followLoad_77 fX5_35 rfl ?_
            refine pr_iload_n 81 dX5_followLoad_80 rfl rfl rfl ?_
            first | refine pr_aaload0 (n := 16) l 20012608 82 dX5_followLoad_81 rfl rfl rfl rfl (by omega) rfl ?_ | refine pr_aaload (n := 16) l 20012608 82 dX5_followLoad_81 rfl rfl rfl rfl (by omega) rfl ?_
            refine pr_iload_n 83 dX5_followLoad_82 rfl (show _ = some (some (pI (nI u))) from rfl) rfl ?_
            refine pr_dup2 rfl rfl 84 dX5_followLoad_83 rfl ?_
            refine pr_iaload u 85 dX5_followLoad_84 rfl rfl rfl (by omega) rfl ?_
            rw [i6 u (by omega)]
            refine pr_iconst (1) 86 dX5_followLoad_85 (by decide) rfl ?_
            refine pr_iadd 87 dX5_followLoad_86 rfl ?_
            rw [show (1 : Int32) = nI 1 from rfl, nI_add]
            refine pr_iastore u 88 dX5_followLoad_87 rfl rfl rfl (by omega) rfl ?_
            refine tail _ hb ?_ _ _ _
            rw [gl, if_neg (fun z => z.2 (by rw [hu]; exact c_58.symm))]
            refine ⟨i1.uI (Or.inr ⟨rfl, rfl⟩), i2, ⟨by rw [pm_gIn (by simp)]; exact i3.1, fun i q hq => by rw [pm_gIn (by simp), pm_gIn (by simp), pm_gIn (by simp)]; exact i3.2 i q hq⟩, by rw [pm_gIn (by simp)]; exact i4, by rw [pm_gIn (by simp)]; exact i5, fun p hp => ?_, fun v hv => by rw [pm_gIn (by simp), pm_gIn (by simp)]; exact i7 v hv⟩
            by_cases z : p = u
            · subst z
              rw [pm_gIe]
              show _ = nI (ch K l p (t + 1))
              rw [ch_s, if_pos ⟨hb, hu, c_58⟩]
            · show _ = nI (ch K l p (t + 1))
              rw [pm_gIn (fun y => z y.2.2), i6 p hp, ch_s, if_neg (fun y => by rw [hu] at y; exact z (Option.some.inj y.2.1).symm), Nat.add_zero]
        · rw [nI_eq (by omega) (by omega)] at c_58
          refine pr_aload_n 62 dX5_followLoad_61 rfl rfl rfl ?_
          refine pr_iload_n 63 dX5_followLoad_62 rfl rfl rfl ?_
          refine pr_iload_n 64 dX5_followLoad_63 rfl rfl rfl ?_
          refine pr_iload 66 dX5_followLoad_64 rfl rfl ?_
          refine pr_inv0R3 69 dX5_followLoad_66 vX5_122 mX5_addGapOfLoad (sp_X5_addGapOfLoad hd1 hW hp1 i3 (by rw [List.length_append] at hglen ⊢; rw [List.length_append]; omega) (by omega) hlg b2 i4 i5) ⟨Nat.le_of_ble_eq_true rfl, Nat.le_of_ble_eq_true rfl⟩ (Nat.le_of_ble_eq_true rfl) rfl (fun mem1 h1 => ?_)
          refine pr_goto 88 dX5_followLoad_69 rfl ?_
          refine tail mem1 hb ?_ _ _ _
          rw [gl, if_pos ⟨hb, fun z => c_58 z.symm⟩]
          have := hi.add h1
          refine ⟨this.1, this.2.1, this.2.2.1, this.2.2.2.1, this.2.2.2.2.1, fun p hp => ?_, this.2.2.2.2.2.2⟩
          show _ = nI (ch K l p (t + 1))
          rw [this.2.2.2.2.2.1 p hp, ch_s, if_neg (fun z => c_58 (by rw [z.2.1]; exact z.2.2)), Nat.add_zero]
      · have hb : ¬ bit K t l = true := fun z => by
          unfold bit at z
          rw [if_pos z] at c_38
          exact absurd c_38 (by decide)
        refine pr_goto 100 dX5_followLoad_41 rfl ?_
        refine pr_iinc 103 dX5_followLoad_100 rfl (by first | exact pm_inc _ | rfl) (pm_st_4 rfl rfl) rfl ?_
        refine pr_goto 15 dX5_followLoad_103 rfl ?_
        have := ih (t + 1) mem a5 (by omega) (by
          rw [gl, if_neg (fun z => hb z.1)]
          refine ⟨i1, i2, i3, i4, i5, fun p hp => ?_, i7⟩
          show _ = nI (ch K l p (t + 1))
          rw [i6 p hp, ch_s, if_neg (fun z => hb z.1), Nat.add_zero])
        rw [show lo K l (t + 1) = lo K l t by rw [lo, if_neg hb]] at this
        exact this
  refine Cl.of (own := RX5) rfl rfl (Nat.le_of_ble_eq_true rfl) rfl ?_; show PR _ _ _ _ _ _ [some _, some _, none, none, none, none] _ _ _
  refine pr_aload_n 1 dX5_followLoad_0 rfl rfl rfl ?_
  refine pr_getP d 4 dX5_followLoad_1 fX5_56 hp rfl ?_
  refine pr_getR0 7 dX5_followLoad_4 fX5_119 rfl ?_
  refine pr_iload_n 8 dX5_followLoad_7 rfl rfl rfl ?_
  refine pr_iaload l 9 dX5_followLoad_8 rfl rfl rfl (by omega) rfl ?_
  rw [(hd.2.2.2.2.2.2.2.1 l hl).2.1]
  refine pr_istore_n 10 dX5_followLoad_9 rfl (pm_st_2 rfl rfl) rfl ?_
  refine pr_iconst (0) 11 dX5_followLoad_10 (by decide) rfl ?_
  refine pr_istore_n 12 dX5_followLoad_11 rfl (pm_st_3 rfl rfl) rfl ?_
  refine pr_iconst (0) 13 dX5_followLoad_12 (by decide) rfl ?_
  refine pr_istore 15 dX5_followLoad_13 (pm_st_4 rfl rfl) rfl ?_
  exact lp (K 40) 0 mem0 _ (by omega) ⟨pm_fr.rf, rfl, by rw [gl, List.append_nil]; exact hg, h0, h00, hch, fun u _ => ⟨rfl, rfl⟩⟩
end RGA
