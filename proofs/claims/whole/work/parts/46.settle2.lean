/-! Ledger.settle -/
section SET
variable {mem0 : pm_M} {L d M : Nat} {K w lk : Nat → Nat} {X : Nat → List (Option pm_v) → List pm_v → pm_M → Prop}
/-- all that a ledger says -/
def acR (mem : pm_M) (L : Nat) (K w lk : Nat → Nat) (M : Nat) : Prop :=
  estR mem L K ∧ clR mem L K ∧ ptR mem L K w lk M ∧ (∀ t, t < K 40 → mem.1 20016090 L t = onI (if idl K w lk M t = true then hr K w lk M t else none) ∧ mem.1 20016091 L t = nI (gvn K w lk M t) ∧ ∀ l, l < M → mem.1 20016492 (16 * L + t) l = nI (oft K w lk M t l)) ∧
  mem.1 10002902 L 13 = nI (opn K w lk M) ∧ ∀ l, l < M → mem.1 20016094 L l = nI (ofo K w lk M l) ∧ mem.1 20016095 L l = nI (shr K w lk M l)
/-- the rows of a ledger and its parter -/
def sSe (L : Nat) : Nat → Nat → Prop := fun t i => (t ∈ [10002902, 20016084, 20016085, 20016086, 20016087, 20016089, 20016090, 20016091, 20016094, 20016095, 10003903, 20016120, 20016121, 40016122] ∧ i = L) ∨ (t ∈ [20016488, 20016492] ∧ i / 16 = L)
theorem sSe_desk (i : Nat) : ∀ t' ∈ [10000900, 20012006, 20012007, 20004008, 20004009, 20016010, 20016011, 20016012, 20016013, 20016014, 20016015], ¬ sSe L t' i := by simp [sSe]
theorem sSe_rout : ∀ t' ∈ [20016201, 20016202, 20016203, 20016204, 20016605, 20016606], ∀ i, ¬ sSe L t' i := by simp [sSe]
/-- D: behind gatherIdle, up to trip t parted -/
def seD (mem0 mem : pm_M) (L d : Nat) (K w lk : Nat → Nat) (M t : Nat) : Prop :=
  pm_fr (sSe L) mem0 mem ∧ ledR mem L d w lk M ∧ estR mem L K ∧ clR mem L K ∧ ptR mem L K w lk M ∧ (∀ t, t < K 40 → mem.1 20016090 L t = onI (if idl K w lk M t = true then hr K w lk M t else none) ∧ mem.1 20016091 L t = nI (gvn K w lk M t)) ∧ mem.1 10002902 L 13 = nI (opn K w lk M) ∧
  (∀ u, u < t → ∀ l, l < M → mem.1 20016492 (16 * L + u) l = nI (oft K w lk M u l)) ∧ ∀ l, l < M → mem.1 20016095 L l = nI (sm (fun u => oft K w lk M u l) t)
set_option maxRecDepth 100000 in
theorem lp_X2_settleD (hd : deskR mem0 d K) (hr : routR mem0 K) (hW : WF K) (hw : WL K w lk M) :
    ∀ j t mem, t + j = K 40 → seD mem0 mem L d K w lk M t → PR cX2_settle RX2 4 3 75 101 [some (pR 10002902 L), some (pR 10000900 d), some (pR 10005905 0), some (pI (nI t))] [] mem (pm_RX cX2_settle none (fun r mem => r = none ∧ pm_fr (sSe L) mem0 mem ∧ ledR mem L d w lk M ∧ acR mem L K w lk M)) := by
  have h16 := hW.2.2.2.2.1
  intro j
  induction j with
  | zero =>
    intro t mem hj hi
    have e : t = K 40 := by omega
    subst e
    obtain ⟨i1, i2, i3, i4, i5, i6, i7, i8, i9⟩ := hi
    have hd1 := hd.fr i1 (sSe_desk d)
    refine pr_iload_n 102 dX2_settle_101 rfl rfl rfl ?_
    refine pr_aload_n 103 dX2_settle_102 rfl rfl rfl ?_
    refine pr_getP d 106 dX2_settle_103 fX2_62 i2.1 rfl ?_
    refine pr_getI 109 dX2_settle_106 fX2_73 rfl ?_
    rw [hd1.2.2.2.2.1]
    refine pr_icmp_ge 123 112 dX2_settle_109 rfl rfl (fun c_109 => ?_) (fun c_109 => absurd (Int32.le_refl _) (c_109))
    refine pr_aload_n 124 dX2_settle_123 rfl rfl rfl ?_
    refine pr_inv0R0 127 dX2_settle_124 vX2_96 mX2_partOpen (sp_X2_partOpen hd1 hW i2 hw i7 i9) ⟨Nat.le_of_ble_eq_true rfl, Nat.le_of_ble_eq_true rfl⟩ (Nat.le_of_ble_eq_true rfl) rfl (fun mem1 h1 => ?_)
    refine pr_return dX2_settle_127 rfl ?_
    obtain ⟨j1, j2, j3⟩ := h1
    have jf : pm_fr (sSe L) mem mem1 := j1.mono (fun t i h => Or.inl ⟨by rcases h.1 with z | z | z | z | z | z <;> simp [z], h.2⟩)
    refine ⟨rfl, i1.tr jf, i2.fr j1 (by simp [sPo]), ?_, ?_, i5.fr j1 (by simp [sPo]) (by simp [sPo]), ?_, ?_, fun l hl => ⟨j2 l hl, j3 l hl⟩⟩
    · intro t ht; rw [(j1 20016086 L (by simp [sPo])).1]; exact i3 t ht
    · intro t ht; rw [(j1 20016087 L (by simp [sPo])).1]; exact i4 t ht
    · intro t ht
      rw [(j1 20016090 L (by simp [sPo])).1, (j1 20016091 L (by simp [sPo])).1, (j1 20016492 (16 * L + t) (by simp [sPo])).1]
      exact ⟨(i6 t ht).1, (i6 t ht).2, i8 t ht⟩
    · rw [(j1 10002902 L (by simp [sPo])).1]; exact i7
  | succ j ih =>
    intro t mem hj hi
    obtain ⟨i1, i2, i3, i4, i5, i6, i7, i8, i9⟩ := hi
    have hd1 := hd.fr i1 (sSe_desk d)
    refine pr_iload_n 102 dX2_settle_101 rfl rfl rfl ?_
    refine pr_aload_n 103 dX2_settle_102 rfl rfl rfl ?_
    refine pr_getP d 106 dX2_settle_103 fX2_62 i2.1 rfl ?_
    refine pr_getI 109 dX2_settle_106 fX2_73 rfl ?_
    rw [hd1.2.2.2.2.1]
    refine pr_icmp_ge 123 112 dX2_settle_109 rfl rfl (fun c_109 => absurd (c_109) (nI_ge (by omega) (by omega))) (fun c_109 => ?_)
    refine pr_aload_n 113 dX2_settle_112 rfl rfl rfl ?_
    refine pr_iload_n 114 dX2_settle_113 rfl rfl rfl ?_
    refine pr_inv0R1 117 dX2_settle_114 vX2_93 mX2_partTrip (sp_X2_partTrip hW i2 hw i5 (t := t) (by omega) (i6 t (by omega)).2 i9) ⟨Nat.le_of_ble_eq_true rfl, Nat.le_of_ble_eq_true rfl⟩ (Nat.le_of_ble_eq_true rfl) rfl (fun mem1 h1 => ?_)
    refine pr_iinc 120 dX2_settle_117 rfl (by first | exact pm_inc _ | rfl) (pm_st_3 rfl rfl) rfl ?_
    refine pr_goto 101 dX2_settle_120 rfl ?_
    obtain ⟨j1, j2, j3⟩ := h1
    have jf : pm_fr (sSe L) mem mem1 := j1.mono (fun t' i h => by
      rcases h with ⟨h, e⟩ | ⟨h, e⟩
      · exact Or.inl ⟨by rcases h with z | z | z | z | z <;> simp [z], e⟩
      · exact Or.inr ⟨by simp [h], by rw [e]; omega⟩)
    refine ih (t + 1) mem1 (by omega) ⟨i1.tr jf, i2.fr j1 (by simp [sPt]), ?_, ?_, i5.fr j1 (by simp [sPt]) (by simp [sPt]), ?_, ?_, ?_, ?_⟩
    · intro t' ht; rw [(j1 20016086 L (by simp [sPt])).1]; exact i3 t' ht
    · intro t' ht; rw [(j1 20016087 L (by simp [sPt])).1]; exact i4 t' ht
    · intro t' ht
      rw [(j1 20016090 L (by simp [sPt])).1, (j1 20016091 L (by simp [sPt])).1]
      exact i6 t' ht
    · rw [(j1 10002902 L (by simp [sPt])).1]; exact i7
    · intro u hu l hl
      by_cases z : u = t
      · subst z; exact j2 l hl
      · rw [(j1 20016492 (16 * L + u) (by simp [sPt]; omega)).1]; exact i8 u (by omega) l hl
    · intro l hl; exact j3 l hl
/-- C: up to truck k closed -/
def seC (mem0 mem : pm_M) (L d : Nat) (K w lk : Nat → Nat) (M k : Nat) : Prop :=
  pm_fr (sSe L) mem0 mem ∧ ledR mem L d w lk M ∧ estR mem L K ∧ ptR mem L K w lk M ∧ (∀ u, u < K 40 → K (101 + 6 * u) < k → mem.1 20016087 L u = nI (cld K u)) ∧ mem.1 10002902 L 13 = nI (sm (fun k => if hasT K k = true then 0 else K k) k) ∧ ∀ l, l < 16 → mem.1 20016095 L l = 0
set_option maxRecDepth 100000 in
theorem lp_X2_settleC (hd : deskR mem0 d K) (hr : routR mem0 K) (hW : WF K) (hw : WL K w lk M) :
    ∀ j k mem, k + j = K 38 → seC mem0 mem L d K w lk M k → PR cX2_settle RX2 4 3 75 73 [some (pR 10002902 L), some (pR 10000900 d), some (pR 10005905 0), some (pI (nI k))] [] mem (pm_RX cX2_settle none (fun r mem => r = none ∧ pm_fr (sSe L) mem0 mem ∧ ledR mem L d w lk M ∧ acR mem L K w lk M)) := by
  have h16 := hW.2.2.2.2.1
  have h4 := hW.2.2.1
  intro j
  induction j with
  | zero =>
    intro k mem hj hi
    have e : k = K 38 := by omega
    subst e
    obtain ⟨i1, i2, i3, i4, i5, i6, i7⟩ := hi
    have hd1 := hd.fr i1 (sSe_desk d)
    have hcl : clR mem L K := fun t ht => i5 t ht (hW.2.2.2.2.2.2.2.2.1 t ht).2.1
    refine pr_iload_n 74 dX2_settle_73 rfl rfl rfl ?_
    refine pr_aload_n 75 dX2_settle_74 rfl rfl rfl ?_
    refine pr_getP d 78 dX2_settle_75 fX2_62 i2.1 rfl ?_
    refine pr_getI 81 dX2_settle_78 fX2_84 rfl ?_
    rw [hd1.2.2.1]
    refine pr_icmp_ge 95 84 dX2_settle_81 rfl rfl (fun c_81 => ?_) (fun c_81 => absurd (Int32.le_refl _) (c_81))
    refine pr_aload_n 96 dX2_settle_95 rfl rfl rfl ?_
    refine pr_inv0R0 99 dX2_settle_96 vX2_90 mX2_gatherIdle (sp_X2_gatherIdle hd1 hW i2 hw i4 hcl i6) ⟨Nat.le_of_ble_eq_true rfl, Nat.le_of_ble_eq_true rfl⟩ (Nat.le_of_ble_eq_true rfl) rfl (fun mem1 h1 => ?_)
    refine pr_iconst (0) 100 dX2_settle_99 (by decide) rfl ?_
    refine pr_istore_n 101 dX2_settle_100 rfl (pm_st_3 rfl rfl) rfl ?_
    obtain ⟨j1, j2, j3, j4, j5⟩ := h1
    have jf : pm_fr (sSe L) mem mem1 := j1.mono (fun t i h => Or.inl ⟨by rcases h.1 with z | z | z <;> simp [z], h.2⟩)
    refine lp_X2_settleD hd hr hW hw (K 40) 0 mem1 (by omega) ⟨i1.tr jf, i2.ga j1 j2 (by simp [sGa]) (by simp [sGa]), ?_, ?_, i4.fr j1 (by simp [sGa]) (by simp [sGa]), fun t ht => ⟨j3 t ht, j4 t ht⟩, j5, fun u hu => absurd hu (Nat.not_lt_zero _), fun l hl => ?_⟩
    · intro t ht; rw [(j1 20016086 L (by simp [sGa])).1]; exact i3 t ht
    · intro t ht; rw [(j1 20016087 L (by simp [sGa])).1]; exact hcl t ht
    · rw [(j1 20016095 L (by simp [sGa])).1]; exact i7 l (by have := hw.1; omega)
  | succ j ih =>
    intro k mem hj hi
    obtain ⟨i1, i2, i3, i4, i5, i6, i7⟩ := hi
    have hd1 := hd.fr i1 (sSe_desk d)
    have hob : sm (fun k => if hasT K k = true then 0 else K k) k < 1000000 := by
      have := sm_bnd (f := fun k => if hasT K k = true then 0 else K k) (n := k) (b := 9999) (fun q hq => by
        have := (hW.2.2.2.2.2.1 q (by omega)).1
        show (if _ then _ else _) ≤ _
        split <;> omega)
      omega
    refine pr_iload_n 74 dX2_settle_73 rfl rfl rfl ?_
    refine pr_aload_n 75 dX2_settle_74 rfl rfl rfl ?_
    refine pr_getP d 78 dX2_settle_75 fX2_62 i2.1 rfl ?_
    refine pr_getI 81 dX2_settle_78 fX2_84 rfl ?_
    rw [hd1.2.2.1]
    refine pr_icmp_ge 95 84 dX2_settle_81 rfl rfl (fun c_81 => absurd (c_81) (nI_ge (by omega) (by omega))) (fun c_81 => ?_)
    refine pr_aload_n 85 dX2_settle_84 rfl rfl rfl ?_
    refine pr_iload_n 86 dX2_settle_85 rfl rfl rfl ?_
    refine pr_inv0R1 89 dX2_settle_86 vX2_87 mX2_closeTruck (sp_X2_closeTruck hd1 hW i2 i3 (k := k) (by omega) i6 hob) ⟨Nat.le_of_ble_eq_true rfl, Nat.le_of_ble_eq_true rfl⟩ (Nat.le_of_ble_eq_true rfl) rfl (fun mem1 h1 => ?_)
    refine pr_iinc 92 dX2_settle_89 rfl (by first | exact pm_inc _ | rfl) (pm_st_3 rfl rfl) rfl ?_
    refine pr_goto 73 dX2_settle_92 rfl ?_
    obtain ⟨j1, j2, j3, j4⟩ := h1
    have jf : pm_fr (sSe L) mem mem1 := j1.mono (fun t i h => Or.inl ⟨by rcases h.1 with z | z | z | z | z | z <;> simp [z], h.2⟩)
    refine ih (k + 1) mem1 (by omega) ⟨i1.tr jf, i2.cl j1 j2, ?_, i4.fr j1 (by simp [sCl]) (by simp [sCl]), ?_, j3, ?_⟩
    · intro t ht; rw [(j1 20016086 L (by simp [sCl])).1]; exact i3 t ht
    · intro u hu hk
      rw [j4 u hu]
      by_cases z : K (101 + 6 * u) = k
      · rw [if_pos z]
      · rw [if_neg z]; exact i5 u hu (by omega)
    · intro l hl; rw [(j1 20016095 L (by simp [sCl])).1]; exact i7 l hl
/-- B: up to trip t measured -/
def seB (mem0 mem : pm_M) (L d : Nat) (K w lk : Nat → Nat) (M t : Nat) : Prop :=
  pm_fr (sSe L) mem0 mem ∧ ledR mem L d w lk M ∧ (∀ u, u < t → mem.1 20016086 L u = nI (est K u) ∧ mem.1 20016089 L u = nI (pts K w lk M u) ∧ ∀ l, l < M → mem.1 20016488 (16 * L + u) l = nI (ptl K w lk u l)) ∧ mem.1 10002902 L 13 = 0 ∧ ∀ l, l < 16 → mem.1 20016095 L l = 0
set_option maxRecDepth 100000 in
theorem lp_X2_settleB (hd : deskR mem0 d K) (hr : routR mem0 K) (hW : WF K) (hw : WL K w lk M) :
    ∀ j t mem, t + j = K 40 → seB mem0 mem L d K w lk M t → PR cX2_settle RX2 4 3 75 38 [some (pR 10002902 L), some (pR 10000900 d), some (pR 10005905 0), some (pI (nI t))] [] mem (pm_RX cX2_settle none (fun r mem => r = none ∧ pm_fr (sSe L) mem0 mem ∧ ledR mem L d w lk M ∧ acR mem L K w lk M)) := by
  have h16 := hW.2.2.2.2.1
  intro j
  induction j with
  | zero =>
    intro t mem hj hi
    have e : t = K 40 := by omega
    subst e
    obtain ⟨i1, i2, i3, i4, i5⟩ := hi
    have hd1 := hd.fr i1 (sSe_desk d)
    refine pr_iload_n 39 dX2_settle_38 rfl rfl rfl ?_
    refine pr_aload_n 40 dX2_settle_39 rfl rfl rfl ?_
    refine pr_getP d 43 dX2_settle_40 fX2_62 i2.1 rfl ?_
    refine pr_getI 46 dX2_settle_43 fX2_73 rfl ?_
    rw [hd1.2.2.2.2.1]
    refine pr_icmp_ge 71 49 dX2_settle_46 rfl rfl (fun c_46 => ?_) (fun c_46 => absurd (Int32.le_refl _) (c_46))
    refine pr_iconst (0) 72 dX2_settle_71 (by decide) rfl ?_
    refine pr_istore_n 73 dX2_settle_72 rfl (pm_st_3 rfl rfl) rfl ?_
    exact lp_X2_settleC hd hr hW hw (K 38) 0 mem (by omega) ⟨i1, i2, fun t ht => (i3 t ht).1, fun t ht => (i3 t ht).2, fun u _ hu => absurd hu (Nat.not_lt_zero _), i4, i5⟩
  | succ j ih =>
    intro t mem hj hi
    obtain ⟨i1, i2, i3, i4, i5⟩ := hi
    have hd1 := hd.fr i1 (sSe_desk d)
    have hr1 := hr.fr i1 sSe_rout
    have fr2 : pm_fr (sSe L) mem (pm_uI mem 20016086 L t (nI (est K t))) := pm_fr.rf.uI (Or.inl ⟨by simp, rfl⟩)
    have i2b : ledR (pm_uI mem 20016086 L t (nI (est K t))) L d w lk M := i2.fr (S := fun t i => t = 20016086 ∧ i = L) (pm_fr.rf.uI ⟨rfl, rfl⟩) (by simp)
    refine pr_iload_n 39 dX2_settle_38 rfl rfl rfl ?_
    refine pr_aload_n 40 dX2_settle_39 rfl rfl rfl ?_
    refine pr_getP d 43 dX2_settle_40 fX2_62 i2.1 rfl ?_
    refine pr_getI 46 dX2_settle_43 fX2_73 rfl ?_
    rw [hd1.2.2.2.2.1]
    refine pr_icmp_ge 71 49 dX2_settle_46 rfl rfl (fun c_46 => absurd (c_46) (nI_ge (by omega) (by omega))) (fun c_46 => ?_)
    refine pr_aload_n 50 dX2_settle_49 rfl rfl rfl ?_
    refine pr_getR0 53 dX2_settle_50 fX2_25 rfl ?_
    refine pr_iload_n 54 dX2_settle_53 rfl rfl rfl ?_
    refine pr_aload_n 55 dX2_settle_54 rfl rfl rfl ?_
    refine pr_iload_n 56 dX2_settle_55 rfl rfl rfl ?_
    refine pr_invD1 59 dX2_settle_56 vX2_76 mX2_estimateOf (sp_X2_estimateOf hd1 hr1 hW i2 (t := t) (by omega)) ⟨Nat.le_of_ble_eq_true rfl, Nat.le_of_ble_eq_true rfl⟩ (Nat.le_of_ble_eq_true rfl) rfl ?_
    refine pr_iastore t 60 dX2_settle_59 rfl rfl rfl (by omega) rfl ?_
    refine pr_aload_n 61 dX2_settle_60 rfl rfl rfl ?_
    refine pr_iload_n 62 dX2_settle_61 rfl rfl rfl ?_
    refine pr_inv0R1 65 dX2_settle_62 vX2_80 mX2_measureParts (sp_X2_measureParts (hd1.fr fr2 (sSe_desk d)) (hr1.fr fr2 sSe_rout) hW i2b hw (t := t) (by omega)) ⟨Nat.le_of_ble_eq_true rfl, Nat.le_of_ble_eq_true rfl⟩ (Nat.le_of_ble_eq_true rfl) rfl (fun mem1 h1 => ?_)
    refine pr_iinc 68 dX2_settle_65 rfl (by first | exact pm_inc _ | rfl) (pm_st_3 rfl rfl) rfl ?_
    refine pr_goto 38 dX2_settle_68 rfl ?_
    obtain ⟨j1, j2, j3, j4⟩ := h1
    have jf : pm_fr (sSe L) (pm_uI mem 20016086 L t (nI (est K t))) mem1 := j1.mono (fun t' i h => by
      rcases h with ⟨h, e⟩ | ⟨h, e⟩
      · exact Or.inl ⟨by simp [h], e⟩
      · exact Or.inr ⟨by simp [h], by rw [e]; omega⟩)
    refine ih (t + 1) mem1 (by omega) ⟨(i1.tr fr2).tr jf, i2b.fr j1 (by simp [sMs]), ?_, ?_, ?_⟩
    · intro u hu
      by_cases z : u = t
      · subst z
        refine ⟨?_, j3, j2⟩
        rw [(j1 20016086 L (by simp [sMs])).1, pm_gIe]
      · obtain ⟨q1, q2, q3⟩ := i3 u (by omega)
        refine ⟨?_, ?_, fun l hl => ?_⟩
        · rw [(j1 20016086 L (by simp [sMs])).1, pm_gIn (by omega)]; exact q1
        · rw [j4 u z, pm_gIn (by simp)]; exact q2
        · rw [(j1 20016488 (16 * L + u) (by simp [sMs]; omega)).1, pm_gIn (by simp)]; exact q3 l hl
    · rw [(j1 10002902 L (by simp [sMs])).1, pm_gIn (by simp)]; exact i4
    · intro l hl; rw [(j1 20016095 L (by simp [sMs])).1, pm_gIn (by simp)]; exact i5 l hl
set_option maxRecDepth 100000 in
theorem sp_X2_settle (hd : deskR mem0 d K) (hr : routR mem0 K) (hW : WF K) (hl : ldW mem0 L w lk M) (hw : WL K w lk M) : Cl yX2_settle cX2_settle 4 none 3 75 [pR 10002902 L, pR 10000900 d, pR 10005905 0] mem0 (fun r mem => r = none ∧ pm_fr (sSe L) mem0 mem ∧ ledR mem L d w lk M ∧ acR mem L K w lk M) := by
  have lp : ∀ j k mem, k + j = 16 → pm_fr (sSe L) mem0 mem → ledR mem L d w lk M → mem.1 10002902 L 13 = 0 → (∀ l, l < k → mem.1 20016095 L l = 0) → PR cX2_settle RX2 4 3 75 17 [some (pR 10002902 L), some (pR 10000900 d), some (pR 10005905 0), some (pI (nI k))] [] mem (pm_RX cX2_settle none (fun r mem => r = none ∧ pm_fr (sSe L) mem0 mem ∧ ledR mem L d w lk M ∧ acR mem L K w lk M)) := by
    intro j
    induction j with
    | zero =>
      intro k mem hj i1 i2 i3 i4
      have e : k = 16 := by omega
      subst e
      refine pr_iload_n 18 dX2_settle_17 rfl rfl rfl ?_
      refine pr_bipush (16) 20 dX2_settle_18 (by decide) rfl ?_
      refine pr_icmp_ge 36 23 dX2_settle_20 rfl rfl (fun c_20 => ?_) (fun c_20 => absurd (by decide) (c_20))
      refine pr_iconst (0) 37 dX2_settle_36 (by decide) rfl ?_
      refine pr_istore_n 38 dX2_settle_37 rfl (pm_st_3 rfl rfl) rfl ?_
      exact lp_X2_settleB hd hr hW hw (K 40) 0 mem (by omega) ⟨i1, i2, fun u hu => absurd hu (Nat.not_lt_zero _), i3, i4⟩
    | succ j ih =>
      intro k mem hj i1 i2 i3 i4
      refine pr_iload_n 18 dX2_settle_17 rfl rfl rfl ?_
      refine pr_bipush (16) 20 dX2_settle_18 (by decide) rfl ?_
      refine pr_icmp_ge 36 23 dX2_settle_20 rfl rfl (fun c_20 => absurd (c_20) (nI_ge (b := 16) (by omega) (by omega))) (fun c_20 => ?_)
      refine pr_aload_n 24 dX2_settle_23 rfl rfl rfl ?_
      refine pr_getR0 27 dX2_settle_24 fX2_51 rfl ?_
      refine pr_iload_n 28 dX2_settle_27 rfl rfl rfl ?_
      refine pr_iconst (0) 29 dX2_settle_28 (by decide) rfl ?_
      refine pr_iastore k 30 dX2_settle_29 rfl rfl rfl (by omega) rfl ?_
      refine pr_iinc 33 dX2_settle_30 rfl (by first | exact pm_inc _ | rfl) (pm_st_3 rfl rfl) rfl ?_
      refine pr_goto 17 dX2_settle_33 rfl ?_
      refine ih (k + 1) _ (by omega) (i1.uI (Or.inl ⟨by simp, rfl⟩)) (i2.fr (S := fun t i => t = 20016095 ∧ i = L) (pm_fr.rf.uI ⟨rfl, rfl⟩) (by simp)) (by rw [pm_gIn (by simp)]; exact i3) (fun l hl => ?_)
      by_cases z : l = k
      · subst z; rw [pm_gIe]
      · rw [pm_gIn (by omega)]; exact i4 l (by omega)
  refine Cl.of (own := RX2) rfl rfl (Nat.le_of_ble_eq_true rfl) rfl ?_; show PR _ _ _ _ _ _ [some _, some _, some _, none] _ _ _
  refine pr_aload_n 1 dX2_settle_0 rfl rfl rfl ?_
  refine pr_aload_n 2 dX2_settle_1 rfl rfl rfl ?_
  refine pr_putP 5 dX2_settle_2 fX2_62 rfl rfl ?_
  refine pr_aload_n 6 dX2_settle_5 rfl rfl rfl ?_
  refine pr_aload_n 7 dX2_settle_6 rfl rfl rfl ?_
  refine pr_putP 10 dX2_settle_7 fX2_66 rfl rfl ?_
  refine pr_aload_n 11 dX2_settle_10 rfl rfl rfl ?_
  refine pr_iconst (0) 12 dX2_settle_11 (by decide) rfl ?_
  refine pr_putI 15 dX2_settle_12 fX2_70 rfl ?_
  refine pr_iconst (0) 16 dX2_settle_15 (by decide) rfl ?_
  refine pr_istore_n 17 dX2_settle_16 rfl (pm_st_3 rfl rfl) rfl ?_
  refine lp 16 0 _ (by omega) (((pm_fr.rf.uP (Or.inl ⟨by simp, rfl⟩)).uP (Or.inl ⟨by simp, rfl⟩)).uI (Or.inl ⟨by simp, rfl⟩)) ⟨?_, ?_, ?_, fun l hlM => ?_⟩ (by rw [pm_gIe]) (fun l hl => absurd hl (Nat.not_lt_zero _))
  · rw [pm_gPI, pm_gP, if_neg (by simp), pm_gP, if_pos ⟨rfl, rfl, rfl⟩]
  · rw [pm_gPI, pm_gP, if_pos ⟨rfl, rfl, rfl⟩]
  · rw [pm_gIn (by simp)]; exact hl.1
  · rw [pm_gIn (by simp), pm_gIn (by simp)]; exact hl.2 l hlM
end SET
