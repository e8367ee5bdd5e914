/-! Ledger.heirOf, gatherIdle -/
def onI (o : Option Nat) : Int32 := match o with
  | none => -1
  | some u => nI u
theorem bk_lt {P : Nat → Bool} : ∀ {t u : Nat}, bk P t = some u → u < t
  | 0, _, h => by cases h
  | t + 1, u, h => by
    unfold bk at h
    by_cases z : P t = true
    · rw [if_pos z] at h; cases h; omega
    · rw [if_neg z] at h
      have := bk_lt h
      omega
theorem fw_lt {P : Nat → Bool} : ∀ {n t u : Nat}, fw P n t = some u → u < t + n
  | 0, _, _, h => by cases h
  | n + 1, t, u, h => by
    unfold fw at h
    by_cases z : P t = true
    · rw [if_pos z] at h; cases h; omega
    · rw [if_neg z] at h
      have := fw_lt h
      omega
theorem hr_lt {K w lk : Nat → Nat} {M t u : Nat} (ht : t < K 40) (h : hr K w lk M t = some u) : u < K 40 := by
  unfold hr at h
  split at h
  next v hv => cases h; have := bk_lt hv; omega
  next hv => have := fw_lt h; omega
theorem pts_le {K w lk : Nat → Nat} {M t : Nat} (hW : WF K) (hw : WL K w lk M) (ht : t < K 40) : pts K w lk M t ≤ 313632 := by
  have := sm_bnd (f := ptl K w lk t) (n := M) (b := 19602) (fun l hl => ptl_le hW hw ht hl)
  have h2 : M * 19602 ≤ 16 * 19602 := Nat.mul_le_mul_right _ hw.1
  unfold pts
  omega
section GAT
variable {mem0 : pm_M} {L d M : Nat} {K w lk : Nat → Nat} {X : Nat → List (Option pm_v) → List pm_v → pm_M → Prop}
def ptR (mem : pm_M) (L : Nat) (K w lk : Nat → Nat) (M : Nat) : Prop := ∀ t, t < K 40 → mem.1 20016089 L t = nI (pts K w lk M t) ∧ ∀ l, l < M → mem.1 20016488 (16 * L + t) l = nI (ptl K w lk t l)
def clR (mem : pm_M) (L : Nat) (K : Nat → Nat) : Prop := ∀ t, t < K 40 → mem.1 20016087 L t = nI (cld K t)
theorem ptR.idle {mem : pm_M} (h : ptR mem L K w lk M) (hW : WF K) (hw : WL K w lk M) {t : Nat} (ht : t < K 40) : Cd yX2_isIdle cX2_isIdle 2 (some .boolean) 0 0 [pR 10002902 L, pI (nI t)] mem (some (pI (if idl K w lk M t = true then 1 else 0))) mem := by
  have h16 := hW.2.2.2.2.1
  have hp := pts_le hW hw ht
  have := sp_X2_isIdle (mem := mem) L t (by omega)
  rw [(h t ht).1] at this
  have e : (nI (pts K w lk M t) = 0) = (idl K w lk M t = true) := by
    rw [show (0 : Int32) = nI 0 from rfl, nI_eq (by omega) (by omega)]
    simp [idl]
  simp only [e] at this
  exact this
theorem ptR.fr {S : Nat → Nat → Prop} {mem : pm_M} (h : ptR mem0 L K w lk M) (hf : pm_fr S mem0 mem) (h1 : ¬ S 20016089 L) (h2 : ∀ i, ¬ S 20016488 i) : ptR mem L K w lk M := by
  intro t ht
  rw [(hf _ _ h1).1]
  refine ⟨(h t ht).1, fun l hl => ?_⟩
  rw [(hf _ _ (h2 _)).1]
  exact (h t ht).2 l hl
set_option maxRecDepth 100000 in
theorem sp_X2_heirOf (hd : deskR mem0 d K) (hW : WF K) (hL : ledR mem0 L d w lk M) (hw : WL K w lk M) (hp : ptR mem0 L K w lk M) {t : Nat} (ht : t < K 40) : Cd yX2_heirOf cX2_heirOf 4 (some .int) 1 21 [pR 10002902 L, pI (nI t)] mem0 (some (pI (onI (hr K w lk M t)))) mem0 := by
  have h16 := hW.2.2.2.2.1
  have h4 := hW.2.2.1
  have hl1 := hL.1
  have ho : ∀ u, u < K 40 → mem0.1 20016013 d u = nI (K (101 + 6 * u)) ∧ K (101 + 6 * u) < 4 := fun u hu => ⟨(hd.2.2.2.2.2.2.2.2 u hu).1, by have := (hW.2.2.2.2.2.2.2.2.1 u hu).2.1; omega⟩
  have hidl : ∀ u, (if idl K w lk M u = true then (1 : Int32) else 0) = 0 ↔ ¬ idl K w lk M u = true := fun u => by
    by_cases z : idl K w lk M u = true <;> simp [z]
  have lp2 : bk (fun u => decide (K (101 + 6 * u) = K (101 + 6 * t)) && !idl K w lk M u) t = none → ∀ n u, u + n = K 40 → fw (fun u => decide (K (101 + 6 * u) = K (101 + 6 * t)) && !idl K w lk M u) (K 40 - (t + 1)) (t + 1) = fw (fun u => decide (K (101 + 6 * u) = K (101 + 6 * t)) && !idl K w lk M u) n u → PR cX2_heirOf RX2 4 1 21 51 [some (pR 10002902 L), some (pI (nI t)), some (pI (nI (K (101 + 6 * t)))), some (pI (nI u))] [] mem0 (pm_RX cX2_heirOf (some .int) (fun r' m' => r' = some (pI (onI (hr K w lk M t))) ∧ m' = mem0)) := by
    intro hb n
    induction n with
    | zero =>
      intro u hu he
      have e : u = K 40 := by omega
      subst e
      refine pr_iload_n 52 dX2_heirOf_51 rfl rfl rfl ?_
      refine pr_aload_n 53 dX2_heirOf_52 rfl rfl rfl ?_
      refine pr_getP d 56 dX2_heirOf_53 fX2_62 hl1 rfl ?_
      refine pr_getI 59 dX2_heirOf_56 fX2_73 rfl ?_
      rw [hd.2.2.2.2.1]
      refine pr_icmp_ge 91 62 dX2_heirOf_59 rfl rfl (fun c_59 => ?_) (fun c_59 => absurd (Int32.le_refl _) (c_59))
      refine pr_iconst (-1) 92 dX2_heirOf_91 (by decide) rfl ?_
      refine pr_ireturn dX2_heirOf_92 rfl ?_
      refine ⟨?_, rfl⟩
      unfold hr
      rw [hb]
      simp only [he]
      rfl
    | succ n ih =>
      intro u hu he
      have hou := ho u (by omega)
      have hot := ho t ht
      refine pr_iload_n 52 dX2_heirOf_51 rfl rfl rfl ?_
      refine pr_aload_n 53 dX2_heirOf_52 rfl rfl rfl ?_
      refine pr_getP d 56 dX2_heirOf_53 fX2_62 hl1 rfl ?_
      refine pr_getI 59 dX2_heirOf_56 fX2_73 rfl ?_
      rw [hd.2.2.2.2.1]
      refine pr_icmp_ge 91 62 dX2_heirOf_59 rfl rfl (fun c_59 => absurd (c_59) (nI_ge (by omega) (by omega))) (fun c_59 => ?_)
      refine pr_aload_n 63 dX2_heirOf_62 rfl rfl rfl ?_
      refine pr_getP d 66 dX2_heirOf_63 fX2_62 hl1 rfl ?_
      refine pr_getR0 69 dX2_heirOf_66 fX2_105 rfl ?_
      refine pr_iload_n 70 dX2_heirOf_69 rfl rfl rfl ?_
      refine pr_iaload u 71 dX2_heirOf_70 rfl rfl rfl (by omega) rfl ?_
      rw [hou.1]
      refine pr_iload_n 72 dX2_heirOf_71 rfl rfl rfl ?_
      refine pr_icmp_ne 85 75 dX2_heirOf_72 rfl rfl (fun c_72 => ?_) (fun c_72 => ?_)
      · rw [nI_eq (by omega) (by omega)] at c_72
        refine pr_iinc 88 dX2_heirOf_85 rfl (by first | exact pm_inc _ | rfl) (pm_st_3 rfl rfl) rfl ?_
        refine pr_goto 51 dX2_heirOf_88 rfl ?_
        refine ih (u + 1) (by omega) ?_
        rw [he, fw, if_neg (by simp [c_72])]
      · rw [nI_eq (by omega) (by omega)] at c_72
        refine pr_aload_n 76 dX2_heirOf_75 rfl rfl rfl ?_
        refine pr_iload_n 77 dX2_heirOf_76 rfl rfl rfl ?_
        refine pr_invD1 80 dX2_heirOf_77 vX2_154 mX2_isIdle (hp.idle hW hw (t := u) (by omega)) ⟨Nat.le_of_ble_eq_true rfl, Nat.le_of_ble_eq_true rfl⟩ (Nat.le_of_ble_eq_true rfl) rfl ?_
        refine pr_if_ne 85 83 dX2_heirOf_80 rfl rfl (fun c_80 => ?_) (fun c_80 => ?_)
        · rw [hidl, Decidable.not_not] at c_80
          refine pr_iinc 88 dX2_heirOf_85 rfl (by first | exact pm_inc _ | rfl) (pm_st_3 rfl rfl) rfl ?_
          refine pr_goto 51 dX2_heirOf_88 rfl ?_
          refine ih (u + 1) (by omega) ?_
          rw [he, fw, if_neg (by simp [c_80])]
        · rw [hidl] at c_80
          refine pr_iload_n 84 dX2_heirOf_83 rfl rfl rfl ?_
          refine pr_ireturn dX2_heirOf_84 rfl ?_
          refine ⟨?_, rfl⟩
          unfold hr
          rw [hb]
          simp only [he]
          rw [fw, if_pos (by simp [c_72, c_80])]
          rfl
  have lp1 : ∀ u, u ≤ t → bk (fun u => decide (K (101 + 6 * u) = K (101 + 6 * t)) && !idl K w lk M u) t = bk (fun u => decide (K (101 + 6 * u) = K (101 + 6 * t)) && !idl K w lk M u) u → PR cX2_heirOf RX2 4 1 21 14 [some (pR 10002902 L), some (pI (nI t)), some (pI (nI (K (101 + 6 * t)))), some (pI (nI u - 1))] [] mem0 (pm_RX cX2_heirOf (some .int) (fun r' m' => r' = some (pI (onI (hr K w lk M t))) ∧ m' = mem0)) := by
    intro u
    induction u with
    | zero =>
      intro _ he
      refine pr_iload_n 15 dX2_heirOf_14 rfl rfl rfl ?_
      refine pr_if_lt 47 18 dX2_heirOf_15 rfl rfl (fun c_15 => ?_) (fun c_15 => absurd (by decide) (c_15))
      refine pr_iload_n 48 dX2_heirOf_47 rfl rfl rfl ?_
      refine pr_iconst (1) 49 dX2_heirOf_48 (by decide) rfl ?_
      refine pr_iadd 50 dX2_heirOf_49 rfl ?_
      rw [show (1 : Int32) = nI 1 from rfl, nI_add]
      refine pr_istore_n 51 dX2_heirOf_50 rfl (pm_st_3 rfl rfl) rfl ?_
      exact lp2 (by rw [he]; rfl) (K 40 - (t + 1)) (t + 1) (by omega) rfl
    | succ u ih =>
      intro hu he
      rw [nI_pred]
      have hou := ho u (by omega)
      have hot := ho t ht
      refine pr_iload_n 15 dX2_heirOf_14 rfl rfl rfl ?_
      refine pr_if_lt 47 18 dX2_heirOf_15 rfl rfl (fun c_15 => absurd (c_15) (nI_pos (by omega))) (fun c_15 => ?_)
      refine pr_aload_n 19 dX2_heirOf_18 rfl rfl rfl ?_
      refine pr_getP d 22 dX2_heirOf_19 fX2_62 hl1 rfl ?_
      refine pr_getR0 25 dX2_heirOf_22 fX2_105 rfl ?_
      refine pr_iload_n 26 dX2_heirOf_25 rfl rfl rfl ?_
      refine pr_iaload u 27 dX2_heirOf_26 rfl rfl rfl (by omega) rfl ?_
      rw [hou.1]
      refine pr_iload_n 28 dX2_heirOf_27 rfl rfl rfl ?_
      refine pr_icmp_ne 41 31 dX2_heirOf_28 rfl rfl (fun c_28 => ?_) (fun c_28 => ?_)
      · rw [nI_eq (by omega) (by omega)] at c_28
        refine pr_iinc 44 dX2_heirOf_41 rfl (Int32.sub_eq_add_neg (nI u) 1).symm (pm_st_3 rfl rfl) rfl ?_
        refine pr_goto 14 dX2_heirOf_44 rfl ?_
        refine ih (by omega) ?_
        rw [he, bk, if_neg (by simp [c_28])]
      · rw [nI_eq (by omega) (by omega)] at c_28
        refine pr_aload_n 32 dX2_heirOf_31 rfl rfl rfl ?_
        refine pr_iload_n 33 dX2_heirOf_32 rfl rfl rfl ?_
        refine pr_invD1 36 dX2_heirOf_33 vX2_154 mX2_isIdle (hp.idle hW hw (t := u) (by omega)) ⟨Nat.le_of_ble_eq_true rfl, Nat.le_of_ble_eq_true rfl⟩ (Nat.le_of_ble_eq_true rfl) rfl ?_
        refine pr_if_ne 41 39 dX2_heirOf_36 rfl rfl (fun c_36 => ?_) (fun c_36 => ?_)
        · rw [hidl, Decidable.not_not] at c_36
          refine pr_iinc 44 dX2_heirOf_41 rfl (Int32.sub_eq_add_neg (nI u) 1).symm (pm_st_3 rfl rfl) rfl ?_
          refine pr_goto 14 dX2_heirOf_44 rfl ?_
          refine ih (by omega) ?_
          rw [he, bk, if_neg (by simp [c_36])]
        · rw [hidl] at c_36
          refine pr_iload_n 40 dX2_heirOf_39 rfl rfl rfl ?_
          refine pr_ireturn dX2_heirOf_40 rfl ?_
          refine ⟨?_, rfl⟩
          unfold hr
          rw [he, bk, if_pos (by simp [c_28, c_36])]
          rfl
  refine Cl.of (own := RX2) rfl rfl (Nat.le_of_ble_eq_true rfl) rfl ?_; show PR _ _ _ _ _ _ [some _, some _, none, none] _ _ _
  refine pr_aload_n 1 dX2_heirOf_0 rfl rfl rfl ?_
  refine pr_getP d 4 dX2_heirOf_1 fX2_62 hl1 rfl ?_
  refine pr_getR0 7 dX2_heirOf_4 fX2_105 rfl ?_
  refine pr_iload_n 8 dX2_heirOf_7 rfl rfl rfl ?_
  refine pr_iaload t 9 dX2_heirOf_8 rfl rfl rfl (by omega) rfl ?_
  rw [(ho t ht).1]
  refine pr_istore_n 10 dX2_heirOf_9 rfl (pm_st_2 rfl rfl) rfl ?_
  refine pr_iload_n 11 dX2_heirOf_10 rfl rfl rfl ?_
  refine pr_iconst (1) 12 dX2_heirOf_11 (by decide) rfl ?_
  refine pr_isub 13 dX2_heirOf_12 rfl ?_
  refine pr_istore_n 14 dX2_heirOf_13 rfl (pm_st_3 rfl rfl) rfl ?_
  exact lp1 t (Nat.le_refl _) rfl
def sGa (L : Nat) : Nat → Nat → Prop := fun t i => (t = 10002902 ∨ t = 20016090 ∨ t = 20016091) ∧ i = L
theorem ledR.ga {S : Nat → Nat → Prop} {mem : pm_M} (h : ledR mem0 L d w lk M) (hf : pm_fr S mem0 mem) (hl : ldF L mem0 mem) (h1 : ¬ S 20016084 L) (h2 : ¬ S 20016085 L) : ledR mem L d w lk M := by
  obtain ⟨q1, q2, q3, q4⟩ := h
  unfold ledR
  rw [hl.2, hl.1 _ (by decide), (hf _ _ h1).1, (hf _ _ h2).1]
  exact ⟨q1, q2, q3, q4⟩
theorem ldF.rf : ldF L mem0 mem0 := ⟨fun _ _ => rfl, rfl⟩
theorem ldF.uI {mem : pm_M} (h : ldF L mem0 mem) {t i k : Nat} {x : Int32} (hne : t ≠ 10002902) : ldF L mem0 (pm_uI mem t i k x) := ⟨fun z hz => by rw [pm_gI, if_neg (fun y => hne y.1.symm)]; exact h.1 z hz, h.2⟩
theorem ldF.uO {mem : pm_M} (h : ldF L mem0 mem) {x : Int32} : ldF L mem0 (pm_uI mem 10002902 L 13 x) := ⟨fun z hz => by rw [pm_gI, if_neg (fun y => hz y.2.2)]; exact h.1 z hz, h.2⟩
theorem ldF.tr {m1 m2 : pm_M} (h1 : ldF L mem0 m1) (h2 : ldF L m1 m2) : ldF L mem0 m2 := ⟨fun k hk => (h2.1 k hk).trans (h1.1 k hk), h2.2.trans h1.2⟩
/-- up to trip t -/
def ga (mem0 mem : pm_M) (L : Nat) (K w lk : Nat → Nat) (M o t : Nat) : Prop :=
  pm_fr (sGa L) mem0 mem ∧ ldF L mem0 mem ∧ (∀ u, u < t → mem.1 20016090 L u = onI (if idl K w lk M u = true then hr K w lk M u else none)) ∧ (∀ v, v < K 40 → mem.1 20016091 L v = nI (sm (fun u => if dst K w lk M u = some v then cld K u else 0) t)) ∧ mem.1 10002902 L 13 = nI (o + sm (fun u => if dst K w lk M u = none then cld K u else 0) t)
set_option maxRecDepth 100000 in
theorem lp_X2_gatherIdle (hd : deskR mem0 d K) (hW : WF K) (hL : ledR mem0 L d w lk M) (hw : WL K w lk M) (hp : ptR mem0 L K w lk M) (hc : clR mem0 L K) {o : Nat} {Qr : Option pm_v → pm_M → Prop} (hk : ∀ mem, ga mem0 mem L K w lk M o (K 40) → Qr none mem) :
    ∀ j t mem a2, t + j = K 40 → ga mem0 mem L K w lk M o t → PR cX2_gatherIdle RX2 3 2 44 28 [some (pR 10002902 L), some (pI (nI t)), a2] [] mem (pm_RX cX2_gatherIdle none Qr) := by
  have h16 := hW.2.2.2.2.1
  intro j
  induction j with
  | zero =>
    intro t mem a2 hj hi
    have e : t = K 40 := by omega
    subst e
    have hl1 := (hL.ga hi.1 hi.2.1 (by simp [sGa]) (by simp [sGa])).1
    have hd1 := hd.fr hi.1 (by simp [sGa])
    refine pr_iload_n 29 dX2_gatherIdle_28 rfl rfl rfl ?_
    refine pr_aload_n 30 dX2_gatherIdle_29 rfl rfl rfl ?_
    refine pr_getP d 33 dX2_gatherIdle_30 fX2_62 hl1 rfl ?_
    refine pr_getI 36 dX2_gatherIdle_33 fX2_73 rfl ?_
    rw [hd1.2.2.2.2.1]
    refine pr_icmp_ge 129 39 dX2_gatherIdle_36 rfl rfl (fun c_36 => ?_) (fun c_36 => absurd (Int32.le_refl _) (c_36))
    refine pr_return dX2_gatherIdle_129 rfl ?_
    exact hk mem hi
  | succ j ih =>
    intro t mem a2 hj hi
    obtain ⟨i1, i2, i3, i4, i5⟩ := hi
    have hL1 := hL.ga i1 i2 (by simp [sGa]) (by simp [sGa])
    have hl1 := hL1.1
    have hd1 := hd.fr i1 (by simp [sGa])
    have hp1 := hp.fr i1 (by simp [sGa]) (by simp [sGa])
    have hc1 : mem.1 20016087 L t = nI (cld K t) := by rw [(i1 20016087 L (by simp [sGa])).1]; exact hc t (by omega)
    have fr2 : pm_fr (sGa L) mem (pm_uI mem 20016090 L t (-1)) := pm_fr.rf.uI ⟨by simp, rfl⟩
    have hidl : (if idl K w lk M t = true then (1 : Int32) else 0) = 0 ↔ ¬ idl K w lk M t = true := by
      by_cases z : idl K w lk M t = true <;> simp [z]
    have hL2 := hL1.ga fr2 (ldF.rf.uI (by decide)) (by simp [sGa]) (by simp [sGa])
    have go : ∀ u, u < t → ∀ (x y : Int32) (z : Nat) (t' : Nat), t' ≠ 20016090 → (pm_uI (pm_uI mem 20016090 L t x) t' L z y).1 20016090 L u = onI (if idl K w lk M u = true then hr K w lk M u else none) := by
      intro u hu x y z t' hne
      rw [pm_gI, if_neg (fun q => hne q.1.symm), pm_gI, if_neg (by omega)]
      exact i3 u hu
    refine pr_iload_n 29 dX2_gatherIdle_28 rfl rfl rfl ?_
    refine pr_aload_n 30 dX2_gatherIdle_29 rfl rfl rfl ?_
    refine pr_getP d 33 dX2_gatherIdle_30 fX2_62 hl1 rfl ?_
    refine pr_getI 36 dX2_gatherIdle_33 fX2_73 rfl ?_
    rw [hd1.2.2.2.2.1]
    refine pr_icmp_ge 129 39 dX2_gatherIdle_36 rfl rfl (fun c_36 => absurd (c_36) (nI_ge (by omega) (by omega))) (fun c_36 => ?_)
    refine pr_aload_n 40 dX2_gatherIdle_39 rfl rfl rfl ?_
    refine pr_getR0 43 dX2_gatherIdle_40 fX2_39 rfl ?_
    refine pr_iload_n 44 dX2_gatherIdle_43 rfl rfl rfl ?_
    refine pr_iconst (-1) 45 dX2_gatherIdle_44 (by decide) rfl ?_
    refine pr_iastore t 46 dX2_gatherIdle_45 rfl rfl rfl (by omega) rfl ?_
    refine pr_aload_n 47 dX2_gatherIdle_46 rfl rfl rfl ?_
    refine pr_iload_n 48 dX2_gatherIdle_47 rfl rfl rfl ?_
    refine pr_invD1 51 dX2_gatherIdle_48 vX2_154 mX2_isIdle ((hp1.fr fr2 (by simp [sGa]) (by simp [sGa])).idle hW hw (t := t) (by omega)) ⟨Nat.le_of_ble_eq_true rfl, Nat.le_of_ble_eq_true rfl⟩ (Nat.le_of_ble_eq_true rfl) rfl ?_
    refine pr_if_ne 72 54 dX2_gatherIdle_51 rfl rfl (fun c_51 => ?_) (fun c_51 => ?_)
    · rw [hidl, Decidable.not_not] at c_51
      have hdst : dst K w lk M t = hr K w lk M t := if_pos c_51
      refine pr_aload_n 73 dX2_gatherIdle_72 rfl rfl rfl ?_
      refine pr_iload_n 74 dX2_gatherIdle_73 rfl rfl rfl ?_
      refine pr_invD1 77 dX2_gatherIdle_74 vX2_158 mX2_heirOf (sp_X2_heirOf (hd1.fr fr2 (by simp [sGa])) hW hL2 hw (hp1.fr fr2 (by simp [sGa]) (by simp [sGa])) (t := t) (by omega)) ⟨Nat.le_of_ble_eq_true rfl, Nat.le_of_ble_eq_true rfl⟩ (Nat.le_of_ble_eq_true rfl) rfl ?_
      refine pr_istore_n 78 dX2_gatherIdle_77 rfl (pm_st_2 rfl rfl) rfl ?_
      refine pr_aload_n 79 dX2_gatherIdle_78 rfl rfl rfl ?_
      refine pr_getR0 82 dX2_gatherIdle_79 fX2_39 rfl ?_
      refine pr_iload_n 83 dX2_gatherIdle_82 rfl rfl rfl ?_
      refine pr_iload_n 84 dX2_gatherIdle_83 rfl rfl rfl ?_
      refine pr_iastore t 85 dX2_gatherIdle_84 rfl rfl rfl (by omega) rfl ?_
      refine pr_iload_n 86 dX2_gatherIdle_85 rfl rfl rfl ?_
      refine pr_iconst (-1) 87 dX2_gatherIdle_86 (by decide) rfl ?_
      have hon : onI (hr K w lk M t) = -1 ↔ hr K w lk M t = none := by
        cases hh : hr K w lk M t with
        | none => simp [onI]
        | some u =>
          have := hr_lt (by omega) hh
          simp only [onI]
          constructor
          · intro z
            have z2 := congrArg Int32.toInt z
            rw [nI_toInt (by omega), show (-1 : Int32).toInt = -1 from rfl] at z2
            omega
          · intro z; cases z
      refine pr_icmp_ne 108 90 dX2_gatherIdle_87 rfl rfl (fun c_87 => ?_) (fun c_87 => ?_)
      · rw [hon] at c_87
        obtain ⟨u, hu⟩ : ∃ u, hr K w lk M t = some u := by
          cases hh : hr K w lk M t with
          | none => exact absurd hh c_87
          | some u => exact ⟨u, rfl⟩
        have hul := hr_lt (by omega) hu
        rw [hu]
        refine pr_aload_n 109 dX2_gatherIdle_108 rfl rfl rfl ?_
        refine pr_getR0 112 dX2_gatherIdle_109 fX2_42 rfl ?_
        refine pr_iload_n 113 dX2_gatherIdle_112 rfl rfl rfl ?_
        refine pr_dup2 rfl rfl 114 dX2_gatherIdle_113 rfl ?_
        refine pr_iaload u 115 dX2_gatherIdle_114 rfl rfl rfl (by omega) rfl ?_
        rw [pm_gI, if_neg (by simp), pm_gI, if_neg (by simp), i4 u hul]
        refine pr_aload_n 116 dX2_gatherIdle_115 rfl rfl rfl ?_
        refine pr_getR0 119 dX2_gatherIdle_116 fX2_28 rfl ?_
        refine pr_iload_n 120 dX2_gatherIdle_119 rfl rfl rfl ?_
        refine pr_iaload t 121 dX2_gatherIdle_120 rfl rfl rfl (by omega) rfl ?_
        rw [pm_gI, if_neg (by simp), pm_gI, if_neg (by simp), hc1]
        refine pr_iadd 122 dX2_gatherIdle_121 rfl ?_
        rw [nI_add]
        refine pr_iastore u 123 dX2_gatherIdle_122 rfl rfl rfl (by omega) rfl ?_
        refine pr_iinc 126 dX2_gatherIdle_123 rfl (by first | exact pm_inc _ | rfl) (pm_st_1 rfl rfl) rfl ?_
        refine pr_goto 28 dX2_gatherIdle_126 rfl ?_
        refine ih (t + 1) _ _ (by omega) ⟨((i1.uI ⟨by simp, rfl⟩).uI ⟨by simp, rfl⟩).uI ⟨by simp, rfl⟩, ((i2.uI (by decide)).uI (by decide)).uI (by decide), fun v hv => ?_, fun v hv => ?_, ?_⟩
        · rw [pm_gI, if_neg (by simp)]
          by_cases z : v = t
          · subst z
            rw [pm_gI, if_pos ⟨rfl, rfl, rfl⟩, if_pos c_51, hu]
          · rw [pm_gI, if_neg (by omega), pm_gI, if_neg (by omega)]
            exact i3 v (by omega)
        · rw [pm_gI]
          by_cases z : v = u
          · subst z
            rw [if_pos ⟨rfl, rfl, rfl⟩, sm, hdst, hu, if_pos rfl]
          · rw [if_neg (fun y => z y.2.2), pm_gI, if_neg (by simp), pm_gI, if_neg (by simp), i4 v hv, sm, hdst, hu, if_neg (fun y => z (Option.some.inj y).symm), Nat.add_zero]
        · rw [pm_gI, if_neg (by simp), pm_gI, if_neg (by simp), pm_gI, if_neg (by simp), i5, sm, hdst, hu, if_neg (by simp), Nat.add_zero]
      · rw [hon] at c_87
        refine pr_aload_n 91 dX2_gatherIdle_90 rfl rfl rfl ?_
        refine pr_dup rfl 92 dX2_gatherIdle_91 rfl ?_
        refine pr_getI 95 dX2_gatherIdle_92 fX2_70 rfl ?_
        rw [pm_gI, if_neg (by simp), pm_gI, if_neg (by simp), i5]
        refine pr_aload_n 96 dX2_gatherIdle_95 rfl rfl rfl ?_
        refine pr_getR0 99 dX2_gatherIdle_96 fX2_28 rfl ?_
        refine pr_iload_n 100 dX2_gatherIdle_99 rfl rfl rfl ?_
        refine pr_iaload t 101 dX2_gatherIdle_100 rfl rfl rfl (by omega) rfl ?_
        rw [pm_gI, if_neg (by simp), pm_gI, if_neg (by simp), hc1]
        refine pr_iadd 102 dX2_gatherIdle_101 rfl ?_
        rw [nI_add]
        refine pr_putI 105 dX2_gatherIdle_102 fX2_70 rfl ?_
        refine pr_goto 123 dX2_gatherIdle_105 rfl ?_
        refine pr_iinc 126 dX2_gatherIdle_123 rfl (by first | exact pm_inc _ | rfl) (pm_st_1 rfl rfl) rfl ?_
        refine pr_goto 28 dX2_gatherIdle_126 rfl ?_
        refine ih (t + 1) _ _ (by omega) ⟨((i1.uI ⟨by simp, rfl⟩).uI ⟨by simp, rfl⟩).uI ⟨by simp, rfl⟩, ((i2.uI (by decide)).uI (by decide)).uO, fun v hv => ?_, fun v hv => ?_, ?_⟩
        · rw [pm_gI, if_neg (by simp)]
          by_cases z : v = t
          · subst z
            rw [pm_gI, if_pos ⟨rfl, rfl, rfl⟩, if_pos c_51]
          · rw [pm_gI, if_neg (by omega), pm_gI, if_neg (by omega)]
            exact i3 v (by omega)
        · rw [pm_gI, if_neg (by simp), pm_gI, if_neg (by simp), pm_gI, if_neg (by simp), i4 v hv, sm, hdst, c_87, if_neg (by simp), Nat.add_zero]
        · rw [pm_gI, if_pos ⟨rfl, rfl, rfl⟩, sm, hdst, c_87, if_pos rfl, Nat.add_assoc]
    · rw [hidl] at c_51
      have hdst : dst K w lk M t = some t := if_neg c_51
      refine pr_aload_n 55 dX2_gatherIdle_54 rfl rfl rfl ?_
      refine pr_getR0 58 dX2_gatherIdle_55 fX2_42 rfl ?_
      refine pr_iload_n 59 dX2_gatherIdle_58 rfl rfl rfl ?_
      refine pr_dup2 rfl rfl 60 dX2_gatherIdle_59 rfl ?_
      refine pr_iaload t 61 dX2_gatherIdle_60 rfl rfl rfl (by omega) rfl ?_
      rw [pm_gI, if_neg (by simp), i4 t (by omega)]
      refine pr_aload_n 62 dX2_gatherIdle_61 rfl rfl rfl ?_
      refine pr_getR0 65 dX2_gatherIdle_62 fX2_28 rfl ?_
      refine pr_iload_n 66 dX2_gatherIdle_65 rfl rfl rfl ?_
      refine pr_iaload t 67 dX2_gatherIdle_66 rfl rfl rfl (by omega) rfl ?_
      rw [pm_gI, if_neg (by simp), hc1]
      refine pr_iadd 68 dX2_gatherIdle_67 rfl ?_
      rw [nI_add]
      refine pr_iastore t 69 dX2_gatherIdle_68 rfl rfl rfl (by omega) rfl ?_
      refine pr_goto 123 dX2_gatherIdle_69 rfl ?_
      refine pr_iinc 126 dX2_gatherIdle_123 rfl (by first | exact pm_inc _ | rfl) (pm_st_1 rfl rfl) rfl ?_
      refine pr_goto 28 dX2_gatherIdle_126 rfl ?_
      refine ih (t + 1) _ _ (by omega) ⟨(i1.uI ⟨by simp, rfl⟩).uI ⟨by simp, rfl⟩, (i2.uI (by decide)).uI (by decide), fun v hv => ?_, fun v hv => ?_, ?_⟩
      · rw [pm_gI, if_neg (by simp)]
        by_cases z : v = t
        · subst z
          rw [pm_gI, if_pos ⟨rfl, rfl, rfl⟩, if_neg c_51]
          rfl
        · rw [pm_gI, if_neg (by omega)]
          exact i3 v (by omega)
      · rw [pm_gI]
        by_cases z : v = t
        · subst z
          rw [if_pos ⟨rfl, rfl, rfl⟩, sm, hdst, if_pos rfl]
        · rw [if_neg (fun y => z y.2.2), pm_gI, if_neg (by simp), i4 v hv, sm, hdst, if_neg (fun y => z (Option.some.inj y).symm), Nat.add_zero]
      · rw [pm_gI, if_neg (by simp), pm_gI, if_neg (by simp), i5, sm, hdst, if_neg (by simp), Nat.add_zero]
set_option maxRecDepth 100000 in
theorem sp_X2_gatherIdle (hd : deskR mem0 d K) (hW : WF K) (hL : ledR mem0 L d w lk M) (hw : WL K w lk M) (hp : ptR mem0 L K w lk M) (hc : clR mem0 L K) {o : Nat} (ho : mem0.1 10002902 L 13 = nI o) : Cl yX2_gatherIdle cX2_gatherIdle 3 none 2 44 [pR 10002902 L] mem0 (fun r mem => r = none ∧ ga mem0 mem L K w lk M o (K 40)) := by
  have h16 := hW.2.2.2.2.1
  have lp : ∀ j t mem, t + j = K 40 → pm_fr (sGa L) mem0 mem → ldF L mem0 mem → mem.1 10002902 L 13 = nI o → (∀ v, v < t → mem.1 20016091 L v = 0) → PR cX2_gatherIdle RX2 3 2 44 2 [some (pR 10002902 L), some (pI (nI t)), none] [] mem (pm_RX cX2_gatherIdle none (fun r mem => r = none ∧ ga mem0 mem L K w lk M o (K 40))) := by
    intro j
    induction j with
    | zero =>
      intro t mem hj i1 i2 i3 i4
      have e : t = K 40 := by omega
      subst e
      have hl1 := (hL.ga i1 i2 (by simp [sGa]) (by simp [sGa])).1
      have hd1 := hd.fr i1 (by simp [sGa])
      refine pr_iload_n 3 dX2_gatherIdle_2 rfl rfl rfl ?_
      refine pr_aload_n 4 dX2_gatherIdle_3 rfl rfl rfl ?_
      refine pr_getP d 7 dX2_gatherIdle_4 fX2_62 hl1 rfl ?_
      refine pr_getI 10 dX2_gatherIdle_7 fX2_73 rfl ?_
      rw [hd1.2.2.2.2.1]
      refine pr_icmp_ge 26 13 dX2_gatherIdle_10 rfl rfl (fun c_10 => ?_) (fun c_10 => absurd (Int32.le_refl _) (c_10))
      refine pr_iconst (0) 27 dX2_gatherIdle_26 (by decide) rfl ?_
      refine pr_istore_n 28 dX2_gatherIdle_27 rfl (pm_st_1 rfl rfl) rfl ?_
      exact lp_X2_gatherIdle hd hW hL hw hp hc (fun mem h => ⟨rfl, h⟩) (K 40) 0 mem _ (by omega) ⟨i1, i2, fun u hu => absurd hu (Nat.not_lt_zero _), fun v hv => i4 v hv, i3⟩
    | succ j ih =>
      intro t mem hj i1 i2 i3 i4
      have hl1 := (hL.ga i1 i2 (by simp [sGa]) (by simp [sGa])).1
      have hd1 := hd.fr i1 (by simp [sGa])
      refine pr_iload_n 3 dX2_gatherIdle_2 rfl rfl rfl ?_
      refine pr_aload_n 4 dX2_gatherIdle_3 rfl rfl rfl ?_
      refine pr_getP d 7 dX2_gatherIdle_4 fX2_62 hl1 rfl ?_
      refine pr_getI 10 dX2_gatherIdle_7 fX2_73 rfl ?_
      rw [hd1.2.2.2.2.1]
      refine pr_icmp_ge 26 13 dX2_gatherIdle_10 rfl rfl (fun c_10 => absurd (c_10) (nI_ge (by omega) (by omega))) (fun c_10 => ?_)
      refine pr_aload_n 14 dX2_gatherIdle_13 rfl rfl rfl ?_
      refine pr_getR0 17 dX2_gatherIdle_14 fX2_42 rfl ?_
      refine pr_iload_n 18 dX2_gatherIdle_17 rfl rfl rfl ?_
      refine pr_iconst (0) 19 dX2_gatherIdle_18 (by decide) rfl ?_
      refine pr_iastore t 20 dX2_gatherIdle_19 rfl rfl rfl (by omega) rfl ?_
      refine pr_iinc 23 dX2_gatherIdle_20 rfl (by first | exact pm_inc _ | rfl) (pm_st_1 rfl rfl) rfl ?_
      refine pr_goto 2 dX2_gatherIdle_23 rfl ?_
      refine ih (t + 1) _ (by omega) (i1.uI ⟨by simp, rfl⟩) (i2.uI (by decide)) (by rw [pm_gI, if_neg (by simp)]; exact i3) (fun v hv => ?_)
      rw [pm_gI]
      by_cases z : v = t
      · rw [if_pos ⟨rfl, rfl, z⟩]
      · rw [if_neg (fun y => z y.2.2)]; exact i4 v (by omega)
  refine Cl.of (own := RX2) rfl rfl (Nat.le_of_ble_eq_true rfl) rfl ?_; show PR _ _ _ _ _ _ [some _, none, none] _ _ _
  refine pr_iconst (0) 1 dX2_gatherIdle_0 (by decide) rfl ?_
  refine pr_istore_n 2 dX2_gatherIdle_1 rfl (pm_st_1 rfl rfl) rfl ?_
  exact lp (K 40) 0 mem0 (by omega) pm_fr.rf ldF.rf ho (fun v hv => absurd hv (Nat.not_lt_zero _))
end GAT
