/-! Ledger.partTrip, partOpen, takeLoads, splitLoad, settle -/
section PTR
variable {mem0 : pm_M} {L d M : Nat} {K w lk : Nat → Nat} {X : Nat → List (Option pm_v) → List pm_v → pm_M → Prop}
def sPt (L t : Nat) : Nat → Nat → Prop := fun t' i => ((t' = 20016095 ∨ t' = 10003903 ∨ t' = 20016120 ∨ t' = 20016121 ∨ t' = 40016122) ∧ i = L) ∨ (t' = 20016492 ∧ i = 16 * L + t)
set_option maxRecDepth 100000 in
theorem lp_X2_partTrip2 (hL : ledR mem0 L d w lk M) (h16 : M ≤ 16) {t : Nat} (ht : t < 16) {b : Bool} {f g : Nat → Nat} {Qr : Option pm_v → pm_M → Prop} (hg : ∀ mem, pm_fr (sPt L t) mem0 mem → (∀ l, l < M → mem.1 20016492 (16 * L + t) l = nI (f l)) → (∀ l, l < M → mem.1 20016095 L l = nI (g l + f l)) → Qr none mem) :
    ∀ j k mem, k + j = M → pm_fr (sPt L t) mem0 mem → (∀ l, l < M → b = false → mem.1 20016120 L l = nI (f l)) → (b = true → ∀ l, l < M → f l = 0) → (∀ l, l < k → mem.1 20016492 (16 * L + t) l = nI (f l)) → (∀ l, l < M → mem.1 20016095 L l = nI (if l < k then g l + f l else g l)) → PR cX2_partTrip RX2 4 2 49 63 [some (pR 10002902 L), some (pI (nI t)), some (pI (if b = true then 1 else 0)), some (pI (nI k))] [] mem (pm_RX cX2_partTrip none Qr) := by
  intro j
  induction j with
  | zero =>
    intro k mem hj hf hb hz ho hto
    have e : M = k := by omega
    subst e
    obtain ⟨l1, l2, l3, l4⟩ := hL.fr hf (by simp [sPt])
    refine pr_iload_n 64 dX2_partTrip_63 rfl rfl rfl ?_
    refine pr_aload_n 65 dX2_partTrip_64 rfl rfl rfl ?_
    refine pr_getI 68 dX2_partTrip_65 fX2_60 rfl ?_
    rw [l3]
    refine pr_icmp_ge 119 71 dX2_partTrip_68 rfl rfl (fun c_68 => ?_) (fun c_68 => absurd (Int32.le_refl _) (c_68))
    refine pr_return dX2_partTrip_119 rfl ?_
    exact hg mem hf ho (fun l hl => by rw [hto l hl, if_pos hl])
  | succ j ih =>
    intro k mem hj hf hb hz ho hto
    obtain ⟨l1, l2, l3, l4⟩ := hL.fr hf (by simp [sPt])
    have hz2 : (if b = true then (1 : Int32) else 0) = 0 ↔ ¬ b = true := by cases b <;> simp
    have rest : PR cX2_partTrip RX2 4 2 49 95 [some (pR 10002902 L), some (pI (nI t)), some (pI (if b = true then 1 else 0)), some (pI (nI k))] [pI (nI (f k)), pI (nI k), pR 20016492 (16 * L + t)] mem (pm_RX cX2_partTrip none Qr) := by
      refine pr_iastore k 96 dX2_partTrip_95 rfl rfl rfl (by omega) rfl ?_
      refine pr_aload_n 97 dX2_partTrip_96 rfl rfl rfl ?_
      refine pr_getR0 100 dX2_partTrip_97 fX2_51 rfl ?_
      refine pr_iload_n 101 dX2_partTrip_100 rfl rfl rfl ?_
      refine pr_dup2 rfl rfl 102 dX2_partTrip_101 rfl ?_
      refine pr_iaload k 103 dX2_partTrip_102 rfl rfl rfl (by omega) rfl ?_
      rw [pm_gIn (by simp), hto k (by omega), if_neg (show ¬ k < k by omega)]
      refine pr_aload_n 104 dX2_partTrip_103 rfl rfl rfl ?_
      refine pr_getR0 107 dX2_partTrip_104 fX2_45 rfl ?_
      refine pr_iload_n 108 dX2_partTrip_107 rfl rfl rfl ?_
      first | refine pr_aaload0 (n := 16) t 20016492 109 dX2_partTrip_108 rfl rfl rfl rfl (by omega) rfl ?_ | refine pr_aaload (n := 16) t 20016492 109 dX2_partTrip_108 rfl rfl rfl rfl (by omega) rfl ?_
      refine pr_iload_n 110 dX2_partTrip_109 rfl rfl rfl ?_
      refine pr_iaload k 111 dX2_partTrip_110 rfl rfl rfl (by omega) rfl ?_
      rw [pm_gIe]
      refine pr_iadd 112 dX2_partTrip_111 rfl ?_
      rw [nI_add]
      refine pr_iastore k 113 dX2_partTrip_112 rfl rfl rfl (by omega) rfl ?_
      refine pr_iinc 116 dX2_partTrip_113 rfl (by first | exact pm_inc _ | rfl) (pm_st_3 rfl rfl) rfl ?_
      refine pr_goto 63 dX2_partTrip_116 rfl ?_
      refine ih (k + 1) _ (by omega) ((hf.uI (Or.inr ⟨rfl, rfl⟩)).uI (t := 20016095) (i := L) (Or.inl ⟨by simp, rfl⟩)) (fun l hl hb2 => ?_) hz (fun l hl => ?_) (fun l hl => ?_)
      · rw [pm_gI, if_neg (by simp), pm_gI, if_neg (by simp)]; exact hb l hl hb2
      · rw [pm_gI, if_neg (by simp), pm_gI]
        by_cases z : l = k
        · rw [if_pos ⟨rfl, rfl, z⟩, z]
        · rw [if_neg (fun y => z y.2.2)]; exact ho l (by omega)
      · rw [pm_gI]
        by_cases z : l = k
        · rw [if_pos ⟨rfl, rfl, z⟩, if_pos (by omega), z]
        · rw [if_neg (fun y => z y.2.2), pm_gI, if_neg (by simp), hto l hl]
          by_cases y : l < k
          · rw [if_pos y, if_pos (by omega)]
          · rw [if_neg y, if_neg (by omega)]
    refine pr_iload_n 64 dX2_partTrip_63 rfl rfl rfl ?_
    refine pr_aload_n 65 dX2_partTrip_64 rfl rfl rfl ?_
    refine pr_getI 68 dX2_partTrip_65 fX2_60 rfl ?_
    rw [l3]
    refine pr_icmp_ge 119 71 dX2_partTrip_68 rfl rfl (fun c_68 => absurd (c_68) (nI_ge (by omega) (by omega))) (fun c_68 => ?_)
    refine pr_aload_n 72 dX2_partTrip_71 rfl rfl rfl ?_
    refine pr_getR0 75 dX2_partTrip_72 fX2_45 rfl ?_
    refine pr_iload_n 76 dX2_partTrip_75 rfl rfl rfl ?_
    first | refine pr_aaload0 (n := 16) t 20016492 77 dX2_partTrip_76 rfl rfl rfl rfl (by omega) rfl ?_ | refine pr_aaload (n := 16) t 20016492 77 dX2_partTrip_76 rfl rfl rfl rfl (by omega) rfl ?_
    refine pr_iload_n 78 dX2_partTrip_77 rfl rfl rfl ?_
    refine pr_iload_n 79 dX2_partTrip_78 rfl rfl rfl ?_
    refine pr_if_eq 86 82 dX2_partTrip_79 rfl rfl (fun c_79 => ?_) (fun c_79 => ?_)
    · rw [hz2] at c_79
      refine pr_aload_n 87 dX2_partTrip_86 rfl rfl rfl ?_
      refine pr_getR0 90 dX2_partTrip_87 fX2_12 rfl ?_
      refine pr_getR0 93 dX2_partTrip_90 fX2_151 rfl ?_
      refine pr_iload_n 94 dX2_partTrip_93 rfl rfl rfl ?_
      refine pr_iaload k 95 dX2_partTrip_94 rfl rfl rfl (by omega) rfl ?_
      rw [hb k (by omega) (by simpa using c_79)]
      exact rest
    · rw [hz2, Decidable.not_not] at c_79
      refine pr_iconst (0) 83 dX2_partTrip_82 (by decide) rfl ?_
      refine pr_goto 95 dX2_partTrip_83 rfl ?_
      have e := hz c_79 k (by omega)
      rw [e] at rest
      exact rest
set_option maxRecDepth 100000 in
theorem sp_X2_partTrip (hW : WF K) (hL : ledR mem0 L d w lk M) (hw : WL K w lk M) (hp : ptR mem0 L K w lk M) {t : Nat} (ht : t < K 40) (hgv : mem0.1 20016091 L t = nI (gvn K w lk M t)) {g : Nat → Nat} (hto : ∀ l, l < M → mem0.1 20016095 L l = nI (g l)) : Cl yX2_partTrip cX2_partTrip 4 none 2 49 [pR 10002902 L, pI (nI t)] mem0 (fun r mem => r = none ∧ pm_fr (sPt L t) mem0 mem ∧ (∀ l, l < M → mem.1 20016492 (16 * L + t) l = nI (oft K w lk M t l)) ∧ (∀ l, l < M → mem.1 20016095 L l = nI (g l + oft K w lk M t l))) := by
  have h16 := hW.2.2.2.2.1
  have hM := hw.1
  have hgb := gvn_le (w := w) (lk := lk) hW M t
  have hidl : (if idl K w lk M t = true then (1 : Int32) else 0) = 0 ↔ ¬ idl K w lk M t = true := by
    by_cases z : idl K w lk M t = true <;> simp [z]
  have lp : ¬ idl K w lk M t = true → ∀ j k mem, k + j = M → pm_fr (sPt L t) mem0 mem → mem.1 20016095 L = mem0.1 20016095 L → mem.1 10003903 L 3 = nI k → (∀ l, l < k → mem.1 20016121 L l = nI (ptl K w lk t l)) → PR cX2_partTrip RX2 4 2 49 19 [some (pR 10002902 L), some (pI (nI t)), some (pI (if idl K w lk M t = true then 1 else 0)), some (pI (nI k))] [] mem (pm_RX cX2_partTrip none (fun r mem => r = none ∧ pm_fr (sPt L t) mem0 mem ∧ (∀ l, l < M → mem.1 20016492 (16 * L + t) l = nI (oft K w lk M t l)) ∧ (∀ l, l < M → mem.1 20016095 L l = nI (g l + oft K w lk M t l)))) := by
    intro hni j
    induction j with
    | zero =>
      intro k mem hj hf htt hcn hme
      have e : M = k := by omega
      subst e
      obtain ⟨l1, l2, l3, l4⟩ := hL.fr hf (by simp [sPt])
      refine pr_iload_n 20 dX2_partTrip_19 rfl rfl rfl ?_
      refine pr_aload_n 21 dX2_partTrip_20 rfl rfl rfl ?_
      refine pr_getI 24 dX2_partTrip_21 fX2_60 rfl ?_
      rw [l3]
      refine pr_icmp_ge 48 27 dX2_partTrip_24 rfl rfl (fun c_24 => ?_) (fun c_24 => absurd (Int32.le_refl _) (c_24))
      refine pr_aload_n 49 dX2_partTrip_48 rfl rfl rfl ?_
      refine pr_getR0 52 dX2_partTrip_49 fX2_12 rfl ?_
      refine pr_aload_n 53 dX2_partTrip_52 rfl rfl rfl ?_
      refine pr_getR0 56 dX2_partTrip_53 fX2_42 rfl ?_
      refine pr_iload_n 57 dX2_partTrip_56 rfl rfl rfl ?_
      refine pr_iaload t 58 dX2_partTrip_57 rfl rfl rfl (by omega) rfl ?_
      rw [(hf 20016091 L (by simp [sPt])).1, hgv]
      refine pr_inv0R1 61 dX2_partTrip_58 vX2_148 mX3_divide (sp_X3_divide (m := ptl K w lk t) hcn (by omega) hme (fun l hl => by have := ptl_le hW hw ht hl; omega) (by omega)) ⟨Nat.le_of_ble_eq_true rfl, Nat.le_of_ble_eq_true rfl⟩ (Nat.le_of_ble_eq_true rfl) rfl (fun mem1 h1 => ?_)
      refine pr_iconst (0) 62 dX2_partTrip_61 (by decide) rfl ?_
      refine pr_istore_n 63 dX2_partTrip_62 rfl (pm_st_3 rfl rfl) rfl ?_
      obtain ⟨j1, j2⟩ := h1
      have jf : pm_fr (sPt L t) mem mem1 := j1.mono (fun t i h => Or.inl ⟨by rcases h.1 with z | z <;> simp [z], h.2⟩)
      refine lp_X2_partTrip2 hL hM (by omega) (f := oft K w lk M t) (g := g) (fun mem2 q1 q2 q3 => ⟨rfl, q1, q2, q3⟩) M 0 mem1 (by omega) (hf.tr jf) (fun l hl _ => ?_) (fun z => absurd z hni) (fun l hl => absurd hl (Nat.not_lt_zero _)) (fun l hl => ?_)
      · rw [j2 l hl, oft, if_neg hni]
      · rw [(j1 20016095 L (by simp [sPar])).1, htt, hto l hl]
        rfl
    | succ j ih =>
      intro k mem hj hf htt hcn hme
      obtain ⟨l1, l2, l3, l4⟩ := hL.fr hf (by simp [sPt])
      refine pr_iload_n 20 dX2_partTrip_19 rfl rfl rfl ?_
      refine pr_aload_n 21 dX2_partTrip_20 rfl rfl rfl ?_
      refine pr_getI 24 dX2_partTrip_21 fX2_60 rfl ?_
      rw [l3]
      refine pr_icmp_ge 48 27 dX2_partTrip_24 rfl rfl (fun c_24 => absurd (c_24) (nI_ge (by omega) (by omega))) (fun c_24 => ?_)
      refine pr_aload_n 28 dX2_partTrip_27 rfl rfl rfl ?_
      refine pr_getR0 31 dX2_partTrip_28 fX2_12 rfl ?_
      refine pr_aload_n 32 dX2_partTrip_31 rfl rfl rfl ?_
      refine pr_getR0 35 dX2_partTrip_32 fX2_33 rfl ?_
      refine pr_iload_n 36 dX2_partTrip_35 rfl rfl rfl ?_
      first | refine pr_aaload0 (n := 16) t 20016488 37 dX2_partTrip_36 rfl rfl rfl rfl (by omega) rfl ?_ | refine pr_aaload (n := 16) t 20016488 37 dX2_partTrip_36 rfl rfl rfl rfl (by omega) rfl ?_
      refine pr_iload_n 38 dX2_partTrip_37 rfl rfl rfl ?_
      refine pr_iaload k 39 dX2_partTrip_38 rfl rfl rfl (by omega) rfl ?_
      rw [(hf 20016488 (16 * L + t) (by simp [sPt])).1, (hp t ht).2 k (by omega)]
      refine pr_inv01 42 dX2_partTrip_39 vX2_142 mX3_add (sp_X3_add hcn (by omega)) ⟨Nat.le_of_ble_eq_true rfl, Nat.le_of_ble_eq_true rfl⟩ (Nat.le_of_ble_eq_true rfl) rfl ?_
      refine pr_iinc 45 dX2_partTrip_42 rfl (by first | exact pm_inc _ | rfl) (pm_st_3 rfl rfl) rfl ?_
      refine pr_goto 19 dX2_partTrip_45 rfl ?_
      refine ih (k + 1) _ (by omega) ((hf.uI (t := 20016121) (i := L) (Or.inl ⟨by simp, rfl⟩)).uI (Or.inl ⟨by simp, rfl⟩)) ?_ ?_ (fun l hl => ?_)
      · rw [← htt]; funext z; rw [pm_gI, if_neg (by simp), pm_gI, if_neg (by simp)]
      · rw [pm_gI, if_pos ⟨rfl, rfl, rfl⟩]
      · rw [pm_gI, if_neg (by simp), pm_gI]
        by_cases z : l = k
        · rw [if_pos ⟨rfl, rfl, z⟩, z]
        · rw [if_neg (fun y => z y.2.2)]; exact hme l (by omega)
  refine Cl.of (own := RX2) rfl rfl (Nat.le_of_ble_eq_true rfl) rfl ?_; show PR _ _ _ _ _ _ [some _, some _, none, none] _ _ _
  refine pr_aload_n 1 dX2_partTrip_0 rfl rfl rfl ?_
  refine pr_iload_n 2 dX2_partTrip_1 rfl rfl rfl ?_
  refine pr_invD1 5 dX2_partTrip_2 vX2_154 mX2_isIdle (hp.idle hW hw ht) ⟨Nat.le_of_ble_eq_true rfl, Nat.le_of_ble_eq_true rfl⟩ (Nat.le_of_ble_eq_true rfl) rfl ?_
  refine pr_istore_n 6 dX2_partTrip_5 rfl (pm_st_2 rfl rfl) rfl ?_
  refine pr_iload_n 7 dX2_partTrip_6 rfl rfl rfl ?_
  refine pr_if_ne 61 10 dX2_partTrip_7 rfl rfl (fun c_7 => ?_) (fun c_7 => ?_)
  · rw [hidl, Decidable.not_not] at c_7
    refine pr_iconst (0) 62 dX2_partTrip_61 (by decide) rfl ?_
    refine pr_istore_n 63 dX2_partTrip_62 rfl (pm_st_3 rfl rfl) rfl ?_
    refine lp_X2_partTrip2 hL hM (by omega) (b := idl K w lk M t) (f := oft K w lk M t) (g := g) (fun mem2 q1 q2 q3 => ⟨rfl, q1, q2, q3⟩) M 0 mem0 (by omega) pm_fr.rf (fun l hl z => by rw [c_7] at z; cases z) (fun _ l _ => by rw [oft, if_pos c_7]) (fun l hl => absurd hl (Nat.not_lt_zero _)) (fun l hl => ?_)
    rw [hto l hl]; rfl
  · rw [hidl] at c_7
    refine pr_aload_n 11 dX2_partTrip_10 rfl rfl rfl ?_
    refine pr_getR0 14 dX2_partTrip_11 fX2_12 rfl ?_
    refine pr_inv00 17 dX2_partTrip_14 vX2_135 mX3_begin (sp_X3_begin L) ⟨Nat.le_of_ble_eq_true rfl, Nat.le_of_ble_eq_true rfl⟩ (Nat.le_of_ble_eq_true rfl) rfl ?_
    refine pr_iconst (0) 18 dX2_partTrip_17 (by decide) rfl ?_
    refine pr_istore_n 19 dX2_partTrip_18 rfl (pm_st_3 rfl rfl) rfl ?_
    refine lp c_7 M 0 _ (by omega) (pm_fr.rf.uI (Or.inl ⟨by simp, rfl⟩)) ?_ ?_ (fun l hl => absurd hl (Nat.not_lt_zero _))
    · funext z; rw [pm_gI, if_neg (by simp)]
    · rw [pm_gI, if_pos ⟨rfl, rfl, rfl⟩]; rfl
def sPo (L : Nat) : Nat → Nat → Prop := fun t' i => (t' = 20016095 ∨ t' = 20016094 ∨ t' = 10003903 ∨ t' = 20016120 ∨ t' = 20016121 ∨ t' = 40016122) ∧ i = L
theorem omz_le (hW : WF K) (hw : WL K w lk M) {l : Nat} (hl : l < M) : omz K w lk l ≤ 19602 := by
  obtain ⟨w1, w2⟩ := hw.2 l hl
  obtain ⟨-, a2, a3⟩ := hW.2.2.2.2.2.2.2.1 (lk l) w2
  have hd := dd_le hW (p := K (69 + lk l)) (q := K (85 + lk l)) (by have := hW.2.1; omega) (by have := hW.2.1; omega)
  unfold omz
  calc _ ≤ 99 * 198 := Nat.mul_le_mul w1 hd
    _ = 19602 := rfl
set_option maxRecDepth 100000 in
theorem sp_X2_partOpen (hd : deskR mem0 d K) (hW : WF K) (hL : ledR mem0 L d w lk M) (hw : WL K w lk M) (hop : mem0.1 10002902 L 13 = nI (opn K w lk M)) {g : Nat → Nat} (hto : ∀ l, l < M → mem0.1 20016095 L l = nI (g l)) : Cl yX2_partOpen cX2_partOpen 3 none 2 49 [pR 10002902 L] mem0 (fun r mem => r = none ∧ pm_fr (sPo L) mem0 mem ∧ (∀ l, l < M → mem.1 20016094 L l = nI (ofo K w lk M l)) ∧ (∀ l, l < M → mem.1 20016095 L l = nI (g l + ofo K w lk M l))) := by
  have hM := hw.1
  have hn16 := hW.2.2.2.1
  have hgb := opn_le (w := w) (lk := lk) hW M
  have lp2 : ∀ j k mem, k + j = M → pm_fr (sPo L) mem0 mem → (∀ l, l < M → mem.1 20016120 L l = nI (ofo K w lk M l)) → (∀ l, l < k → mem.1 20016094 L l = nI (ofo K w lk M l)) → (∀ l, l < M → mem.1 20016095 L l = nI (if l < k then g l + ofo K w lk M l else g l)) → ∀ a2, PR cX2_partOpen RX2 3 2 49 82 [some (pR 10002902 L), some (pI (nI k)), a2] [] mem (pm_RX cX2_partOpen none (fun r mem => r = none ∧ pm_fr (sPo L) mem0 mem ∧ (∀ l, l < M → mem.1 20016094 L l = nI (ofo K w lk M l)) ∧ (∀ l, l < M → mem.1 20016095 L l = nI (g l + ofo K w lk M l)))) := by
    intro j
    induction j with
    | zero =>
      intro k mem hj hf hg ho ht a2
      have e : M = k := by omega
      subst e
      obtain ⟨l1, l2, l3, l4⟩ := hL.fr hf (by simp [sPo])
      refine pr_iload_n 83 dX2_partOpen_82 rfl rfl rfl ?_
      refine pr_aload_n 84 dX2_partOpen_83 rfl rfl rfl ?_
      refine pr_getI 87 dX2_partOpen_84 fX2_60 rfl ?_
      rw [l3]
      refine pr_icmp_ge 126 90 dX2_partOpen_87 rfl rfl (fun c_87 => ?_) (fun c_87 => absurd (Int32.le_refl _) (c_87))
      refine pr_return dX2_partOpen_126 rfl ?_
      exact ⟨rfl, hf, ho, fun l hl => by rw [ht l hl, if_pos hl]⟩
    | succ j ih =>
      intro k mem hj hf hg ho ht a2
      obtain ⟨l1, l2, l3, l4⟩ := hL.fr hf (by simp [sPo])
      refine pr_iload_n 83 dX2_partOpen_82 rfl rfl rfl ?_
      refine pr_aload_n 84 dX2_partOpen_83 rfl rfl rfl ?_
      refine pr_getI 87 dX2_partOpen_84 fX2_60 rfl ?_
      rw [l3]
      refine pr_icmp_ge 126 90 dX2_partOpen_87 rfl rfl (fun c_87 => absurd (c_87) (nI_ge (by omega) (by omega))) (fun c_87 => ?_)
      refine pr_aload_n 91 dX2_partOpen_90 rfl rfl rfl ?_
      refine pr_getR0 94 dX2_partOpen_91 fX2_48 rfl ?_
      refine pr_iload_n 95 dX2_partOpen_94 rfl rfl rfl ?_
      refine pr_aload_n 96 dX2_partOpen_95 rfl rfl rfl ?_
      refine pr_getR0 99 dX2_partOpen_96 fX2_12 rfl ?_
      refine pr_getR0 102 dX2_partOpen_99 fX2_151 rfl ?_
      refine pr_iload_n 103 dX2_partOpen_102 rfl rfl rfl ?_
      refine pr_iaload k 104 dX2_partOpen_103 rfl rfl rfl (by omega) rfl ?_
      rw [hg k (by omega)]
      refine pr_iastore k 105 dX2_partOpen_104 rfl rfl rfl (by omega) rfl ?_
      refine pr_aload_n 106 dX2_partOpen_105 rfl rfl rfl ?_
      refine pr_getR0 109 dX2_partOpen_106 fX2_51 rfl ?_
      refine pr_iload_n 110 dX2_partOpen_109 rfl rfl rfl ?_
      refine pr_dup2 rfl rfl 111 dX2_partOpen_110 rfl ?_
      refine pr_iaload k 112 dX2_partOpen_111 rfl rfl rfl (by omega) rfl ?_
      rw [pm_gI, if_neg (by simp), ht k (by omega), if_neg (by omega)]
      refine pr_aload_n 113 dX2_partOpen_112 rfl rfl rfl ?_
      refine pr_getR0 116 dX2_partOpen_113 fX2_48 rfl ?_
      refine pr_iload_n 117 dX2_partOpen_116 rfl rfl rfl ?_
      refine pr_iaload k 118 dX2_partOpen_117 rfl rfl rfl (by omega) rfl ?_
      rw [pm_gI, if_pos ⟨rfl, rfl, rfl⟩]
      refine pr_iadd 119 dX2_partOpen_118 rfl ?_
      rw [nI_add]
      refine pr_iastore k 120 dX2_partOpen_119 rfl rfl rfl (by omega) rfl ?_
      refine pr_iinc 123 dX2_partOpen_120 rfl (by first | exact pm_inc _ | rfl) (pm_st_1 rfl rfl) rfl ?_
      refine pr_goto 82 dX2_partOpen_123 rfl ?_
      refine ih (k + 1) _ (by omega) ((hf.uI ⟨by simp, rfl⟩).uI ⟨by simp, rfl⟩) (fun l hl => ?_) (fun l hl => ?_) (fun l hl => ?_) _
      · rw [pm_gI, if_neg (by simp), pm_gI, if_neg (by simp)]; exact hg l hl
      · rw [pm_gI, if_neg (by simp), pm_gI]
        by_cases z : l = k
        · rw [if_pos ⟨rfl, rfl, z⟩, z]
        · rw [if_neg (fun y => z y.2.2)]; exact ho l (by omega)
      · rw [pm_gI]
        by_cases z : l = k
        · rw [if_pos ⟨rfl, rfl, z⟩, if_pos (by omega), z]
        · rw [if_neg (fun y => z y.2.2), pm_gI, if_neg (by simp), ht l hl]
          by_cases y : l < k
          · rw [if_pos y, if_pos (by omega)]
          · rw [if_neg y, if_neg (by omega)]
  have lp1 : ∀ j k mem, k + j = M → pm_fr (sPo L) mem0 mem → mem.1 20016095 L = mem0.1 20016095 L → mem.1 10003903 L 3 = nI k → (∀ l, l < k → mem.1 20016121 L l = nI (omz K w lk l)) → ∀ a2, PR cX2_partOpen RX2 3 2 49 9 [some (pR 10002902 L), some (pI (nI k)), a2] [] mem (pm_RX cX2_partOpen none (fun r mem => r = none ∧ pm_fr (sPo L) mem0 mem ∧ (∀ l, l < M → mem.1 20016094 L l = nI (ofo K w lk M l)) ∧ (∀ l, l < M → mem.1 20016095 L l = nI (g l + ofo K w lk M l)))) := by
    intro j
    induction j with
    | zero =>
      intro k mem hj hf htt hcn hme a2
      have e : M = k := by omega
      subst e
      obtain ⟨l1, l2, l3, l4⟩ := hL.fr hf (by simp [sPo])
      refine pr_iload_n 10 dX2_partOpen_9 rfl rfl rfl ?_
      refine pr_aload_n 11 dX2_partOpen_10 rfl rfl rfl ?_
      refine pr_getI 14 dX2_partOpen_11 fX2_60 rfl ?_
      rw [l3]
      refine pr_icmp_ge 69 17 dX2_partOpen_14 rfl rfl (fun c_14 => ?_) (fun c_14 => absurd (Int32.le_refl _) (c_14))
      refine pr_aload_n 70 dX2_partOpen_69 rfl rfl rfl ?_
      refine pr_getR0 73 dX2_partOpen_70 fX2_12 rfl ?_
      refine pr_aload_n 74 dX2_partOpen_73 rfl rfl rfl ?_
      refine pr_getI 77 dX2_partOpen_74 fX2_70 rfl ?_
      rw [(hf 10002902 L (by simp [sPo])).1, hop]
      refine pr_inv0R1 80 dX2_partOpen_77 vX2_148 mX3_divide (sp_X3_divide (m := omz K w lk) hcn (by omega) hme (fun l hl => by have := omz_le hW hw hl; omega) (by omega)) ⟨Nat.le_of_ble_eq_true rfl, Nat.le_of_ble_eq_true rfl⟩ (Nat.le_of_ble_eq_true rfl) rfl (fun mem1 h1 => ?_)
      refine pr_iconst (0) 81 dX2_partOpen_80 (by decide) rfl ?_
      refine pr_istore_n 82 dX2_partOpen_81 rfl (pm_st_1 rfl rfl) rfl ?_
      obtain ⟨j1, j2⟩ := h1
      have jf : pm_fr (sPo L) mem mem1 := j1.mono (fun t i h => ⟨by rcases h.1 with z | z <;> simp [z], h.2⟩)
      refine lp2 M 0 mem1 (by omega) (hf.tr jf) (fun l hl => j2 l hl) (fun l hl => absurd hl (Nat.not_lt_zero _)) (fun l hl => ?_) _
      rw [(j1 20016095 L (by simp [sPar])).1, htt, hto l hl]
      rfl
    | succ j ih =>
      intro k mem hj hf htt hcn hme a2
      have hd1 := hd.fr hf (by simp [sPo])
      obtain ⟨l1, l2, l3, l4⟩ := hL.fr hf (by simp [sPo])
      obtain ⟨w1, w2⟩ := hw.2 k (by omega)
      obtain ⟨-, a2', a3'⟩ := hW.2.2.2.2.2.2.2.1 (lk k) w2
      obtain ⟨-, e2, e3⟩ := hd1.2.2.2.2.2.2.2.1 (lk k) w2
      refine pr_iload_n 10 dX2_partOpen_9 rfl rfl rfl ?_
      refine pr_aload_n 11 dX2_partOpen_10 rfl rfl rfl ?_
      refine pr_getI 14 dX2_partOpen_11 fX2_60 rfl ?_
      rw [l3]
      refine pr_icmp_ge 69 17 dX2_partOpen_14 rfl rfl (fun c_14 => absurd (c_14) (nI_ge (by omega) (by omega))) (fun c_14 => ?_)
      refine pr_aload_n 18 dX2_partOpen_17 rfl rfl rfl ?_
      refine pr_getR0 21 dX2_partOpen_18 fX2_22 rfl ?_
      refine pr_iload_n 22 dX2_partOpen_21 rfl rfl rfl ?_
      refine pr_iaload k 23 dX2_partOpen_22 rfl rfl rfl (by omega) rfl ?_
      rw [(l4 k (by omega)).2]
      refine pr_istore_n 24 dX2_partOpen_23 rfl (pm_st_2 rfl rfl) rfl ?_
      refine pr_aload_n 25 dX2_partOpen_24 rfl rfl rfl ?_
      refine pr_getR0 28 dX2_partOpen_25 fX2_12 rfl ?_
      refine pr_aload_n 29 dX2_partOpen_28 rfl rfl rfl ?_
      refine pr_getR0 32 dX2_partOpen_29 fX2_18 rfl ?_
      refine pr_iload_n 33 dX2_partOpen_32 rfl rfl rfl ?_
      refine pr_iaload k 34 dX2_partOpen_33 rfl rfl rfl (by omega) rfl ?_
      rw [(l4 k (by omega)).1]
      refine pr_aload_n 35 dX2_partOpen_34 rfl rfl rfl ?_
      refine pr_getP d 38 dX2_partOpen_35 fX2_62 l1 rfl ?_
      refine pr_aload_n 39 dX2_partOpen_38 rfl rfl rfl ?_
      refine pr_getP d 42 dX2_partOpen_39 fX2_62 l1 rfl ?_
      refine pr_getR0 45 dX2_partOpen_42 fX2_161 rfl ?_
      refine pr_iload_n 46 dX2_partOpen_45 rfl rfl rfl ?_
      refine pr_iaload (lk k) 47 dX2_partOpen_46 rfl rfl rfl (by omega) rfl ?_
      rw [e2]
      refine pr_aload_n 48 dX2_partOpen_47 rfl rfl rfl ?_
      refine pr_getP d 51 dX2_partOpen_48 fX2_62 l1 rfl ?_
      refine pr_getR0 54 dX2_partOpen_51 fX2_164 rfl ?_
      refine pr_iload_n 55 dX2_partOpen_54 rfl rfl rfl ?_
      refine pr_iaload (lk k) 56 dX2_partOpen_55 rfl rfl rfl (by omega) rfl ?_
      rw [e3]
      refine pr_invD2 59 dX2_partOpen_56 vX2_122 mX0_distance (hd1.dist hW a2' a3') ⟨Nat.le_of_ble_eq_true rfl, Nat.le_of_ble_eq_true rfl⟩ (Nat.le_of_ble_eq_true rfl) rfl ?_
      refine pr_imul 60 dX2_partOpen_59 rfl ?_
      rw [nI_mulN]
      refine pr_inv01 63 dX2_partOpen_60 vX2_142 mX3_add (sp_X3_add hcn (by omega)) ⟨Nat.le_of_ble_eq_true rfl, Nat.le_of_ble_eq_true rfl⟩ (Nat.le_of_ble_eq_true rfl) rfl ?_
      refine pr_iinc 66 dX2_partOpen_63 rfl (by first | exact pm_inc _ | rfl) (pm_st_1 rfl rfl) rfl ?_
      refine pr_goto 9 dX2_partOpen_66 rfl ?_
      refine ih (k + 1) _ (by omega) ((hf.uI (t := 20016121) (i := L) ⟨by simp, rfl⟩).uI ⟨by simp, rfl⟩) ?_ ?_ (fun l hl => ?_) _
      · rw [← htt]; funext z; rw [pm_gI, if_neg (by simp), pm_gI, if_neg (by simp)]
      · rw [pm_gI, if_pos ⟨rfl, rfl, rfl⟩]
      · rw [pm_gI, if_neg (by simp), pm_gI]
        by_cases z : l = k
        · rw [if_pos ⟨rfl, rfl, z⟩, z]; rfl
        · rw [if_neg (fun y => z y.2.2)]; exact hme l (by omega)
  refine Cl.of (own := RX2) rfl rfl (Nat.le_of_ble_eq_true rfl) rfl ?_; show PR _ _ _ _ _ _ [some _, none, none] _ _ _
  refine pr_aload_n 1 dX2_partOpen_0 rfl rfl rfl ?_
  refine pr_getR0 4 dX2_partOpen_1 fX2_12 rfl ?_
  refine pr_inv00 7 dX2_partOpen_4 vX2_135 mX3_begin (sp_X3_begin L) ⟨Nat.le_of_ble_eq_true rfl, Nat.le_of_ble_eq_true rfl⟩ (Nat.le_of_ble_eq_true rfl) rfl ?_
  refine pr_iconst (0) 8 dX2_partOpen_7 (by decide) rfl ?_
  refine pr_istore_n 9 dX2_partOpen_8 rfl (pm_st_1 rfl rfl) rfl ?_
  refine lp1 M 0 _ (by omega) (pm_fr.rf.uI ⟨by simp, rfl⟩) ?_ ?_ (fun l hl => absurd hl (Nat.not_lt_zero _)) _
  · funext z; rw [pm_gI, if_neg (by simp)]
  · rw [pm_gI, if_pos ⟨rfl, rfl, rfl⟩]; rfl
def sTk (L : Nat) : Nat → Nat → Prop := fun t' i => (t' = 10002902 ∨ t' = 20016084 ∨ t' = 20016085) ∧ i = L
/-- a ledger's loads -/
def ldW (mem : pm_M) (L : Nat) (w lk : Nat → Nat) (M : Nat) : Prop := mem.1 10002902 L 3 = nI M ∧ ∀ l, l < M → mem.1 20016084 L l = nI (w l) ∧ mem.1 20016085 L l = nI (lk l)
set_option maxRecDepth 100000 in
theorem sp_X2_takeLoads (hd : deskR mem0 d K) (hW : WF K) : Cl yX2_takeLoads cX2_takeLoads 3 none 0 0 [pR 10002902 L, pR 10000900 d] mem0 (fun r mem => r = none ∧ pm_fr (sTk L) mem0 mem ∧ ldW mem L (fun l => K (20 + l)) (fun l => l) (K 39)) := by
  have h16 := hW.2.2.2.1
  have lp : ∀ j k mem, k + j = K 39 → pm_fr (sTk L) mem0 mem → mem.1 10002902 L 3 = nI (K 39) → (∀ l, l < k → mem.1 20016084 L l = nI (K (20 + l)) ∧ mem.1 20016085 L l = nI l) → PR cX2_takeLoads RX2 3 0 0 10 [some (pR 10002902 L), some (pR 10000900 d), some (pI (nI k))] [] mem (pm_RX cX2_takeLoads none (fun r mem => r = none ∧ pm_fr (sTk L) mem0 mem ∧ ldW mem L (fun l => K (20 + l)) (fun l => l) (K 39))) := by
    intro j
    induction j with
    | zero =>
      intro k mem hj hf hl hwl
      have e : k = K 39 := by omega
      subst e
      refine pr_iload_n 11 dX2_takeLoads_10 rfl rfl rfl ?_
      refine pr_aload_n 12 dX2_takeLoads_11 rfl rfl rfl ?_
      refine pr_getI 15 dX2_takeLoads_12 fX2_60 rfl ?_
      rw [hl]
      refine pr_icmp_ge 43 18 dX2_takeLoads_15 rfl rfl (fun c_15 => ?_) (fun c_15 => absurd (Int32.le_refl _) (c_15))
      refine pr_return dX2_takeLoads_43 rfl ?_
      exact ⟨rfl, hf, hl, hwl⟩
    | succ j ih =>
      intro k mem hj hf hl hwl
      have hd1 := hd.fr hf (by simp [sTk])
      refine pr_iload_n 11 dX2_takeLoads_10 rfl rfl rfl ?_
      refine pr_aload_n 12 dX2_takeLoads_11 rfl rfl rfl ?_
      refine pr_getI 15 dX2_takeLoads_12 fX2_60 rfl ?_
      rw [hl]
      refine pr_icmp_ge 43 18 dX2_takeLoads_15 rfl rfl (fun c_15 => absurd (c_15) (nI_ge (by omega) (by omega))) (fun c_15 => ?_)
      refine pr_aload_n 19 dX2_takeLoads_18 rfl rfl rfl ?_
      refine pr_getR0 22 dX2_takeLoads_19 fX2_18 rfl ?_
      refine pr_iload_n 23 dX2_takeLoads_22 rfl rfl rfl ?_
      refine pr_aload_n 24 dX2_takeLoads_23 rfl rfl rfl ?_
      refine pr_getR0 27 dX2_takeLoads_24 fX2_61 rfl ?_
      refine pr_iload_n 28 dX2_takeLoads_27 rfl rfl rfl ?_
      refine pr_iaload k 29 dX2_takeLoads_28 rfl rfl rfl (by omega) rfl ?_
      rw [(hd1.2.2.2.2.2.2.2.1 k (by omega)).1]
      refine pr_iastore k 30 dX2_takeLoads_29 rfl rfl rfl (by omega) rfl ?_
      refine pr_aload_n 31 dX2_takeLoads_30 rfl rfl rfl ?_
      refine pr_getR0 34 dX2_takeLoads_31 fX2_22 rfl ?_
      refine pr_iload_n 35 dX2_takeLoads_34 rfl rfl rfl ?_
      refine pr_iload_n 36 dX2_takeLoads_35 rfl rfl rfl ?_
      refine pr_iastore k 37 dX2_takeLoads_36 rfl rfl rfl (by omega) rfl ?_
      refine pr_iinc 40 dX2_takeLoads_37 rfl (by first | exact pm_inc _ | rfl) (pm_st_2 rfl rfl) rfl ?_
      refine pr_goto 10 dX2_takeLoads_40 rfl ?_
      refine ih (k + 1) _ (by omega) ((hf.uI ⟨by simp, rfl⟩).uI ⟨by simp, rfl⟩) (by rw [pm_gI, if_neg (by simp), pm_gI, if_neg (by simp)]; exact hl) (fun l hl2 => ?_)
      by_cases z : l = k
      · subst z
        rw [pm_gI, if_neg (by simp), pm_gI, if_pos ⟨rfl, rfl, rfl⟩, pm_gI, if_pos ⟨rfl, rfl, rfl⟩]
        exact ⟨rfl, rfl⟩
      · rw [pm_gI, if_neg (by simp), pm_gI, if_neg (fun y => z y.2.2), pm_gI, if_neg (fun y => z y.2.2), pm_gI, if_neg (by simp)]
        exact hwl l (by omega)
  refine Cl.of (own := RX2) rfl rfl (Nat.le_of_ble_eq_true rfl) rfl ?_; show PR _ _ _ _ _ _ [some _, some _, none] _ _ _
  refine pr_aload_n 1 dX2_takeLoads_0 rfl rfl rfl ?_
  refine pr_aload_n 2 dX2_takeLoads_1 rfl rfl rfl ?_
  refine pr_getI 5 dX2_takeLoads_2 fX2_54 rfl ?_
  rw [hd.2.2.2.1]
  refine pr_putI 8 dX2_takeLoads_5 fX2_60 rfl ?_
  refine pr_iconst (0) 9 dX2_takeLoads_8 (by decide) rfl ?_
  refine pr_istore_n 10 dX2_takeLoads_9 rfl (pm_st_2 rfl rfl) rfl ?_
  exact lp (K 39) 0 _ (by omega) (pm_fr.rf.uI ⟨by simp, rfl⟩) (by rw [pm_gI, if_pos ⟨rfl, rfl, rfl⟩]) (fun l hl => absurd hl (Nat.not_lt_zero _))
set_option maxRecDepth 100000 in
theorem sp_X2_splitLoad (hl : ldW mem0 L w lk M) (hM : M < 16) {l v : Nat} (hlM : l < M) (hv : v ≤ w l) : Cl yX2_splitLoad cX2_splitLoad 3 none 0 0 [pR 10002902 L, pI (nI l), pI (nI v)] mem0 (fun r mem => r = none ∧ pm_fr (sTk L) mem0 mem ∧ ldW mem L (fun k => if k = l then v else if k = M then w l - v else w k) (fun k => if k = M then l else lk k) (M + 1)) := by
  obtain ⟨l1, l2⟩ := hl
  refine Cl.of (own := RX2) rfl rfl (Nat.le_of_ble_eq_true rfl) rfl ?_; show PR _ _ _ _ _ _ [some _, some _, some _] _ _ _
  refine pr_aload_n 1 dX2_splitLoad_0 rfl rfl rfl ?_
  refine pr_getI 4 dX2_splitLoad_1 fX2_60 rfl ?_
  rw [l1]
  refine pr_bipush (16) 6 dX2_splitLoad_4 (by decide) rfl ?_
  refine pr_icmp_ge 53 9 dX2_splitLoad_6 rfl rfl (fun c_6 => absurd (c_6) (nI_ge (b := 16) hM (by omega))) (fun c_6 => ?_)
  refine pr_aload_n 10 dX2_splitLoad_9 rfl rfl rfl ?_
  refine pr_getR0 13 dX2_splitLoad_10 fX2_18 rfl ?_
  refine pr_aload_n 14 dX2_splitLoad_13 rfl rfl rfl ?_
  refine pr_getI 17 dX2_splitLoad_14 fX2_60 rfl ?_
  rw [l1]
  refine pr_aload_n 18 dX2_splitLoad_17 rfl rfl rfl ?_
  refine pr_getR0 21 dX2_splitLoad_18 fX2_18 rfl ?_
  refine pr_iload_n 22 dX2_splitLoad_21 rfl rfl rfl ?_
  refine pr_iaload l 23 dX2_splitLoad_22 rfl rfl rfl (by omega) rfl ?_
  rw [(l2 l hlM).1]
  refine pr_iload_n 24 dX2_splitLoad_23 rfl rfl rfl ?_
  refine pr_isub 25 dX2_splitLoad_24 rfl ?_
  rw [nI_subN hv]
  refine pr_iastore M 26 dX2_splitLoad_25 rfl rfl rfl (by omega) rfl ?_
  refine pr_aload_n 27 dX2_splitLoad_26 rfl rfl rfl ?_
  refine pr_getR0 30 dX2_splitLoad_27 fX2_22 rfl ?_
  refine pr_aload_n 31 dX2_splitLoad_30 rfl rfl rfl ?_
  refine pr_getI 34 dX2_splitLoad_31 fX2_60 rfl ?_
  rw [pm_gI, if_neg (by simp), l1]
  refine pr_iload_n 35 dX2_splitLoad_34 rfl rfl rfl ?_
  refine pr_iastore M 36 dX2_splitLoad_35 rfl rfl rfl (by omega) rfl ?_
  refine pr_aload_n 37 dX2_splitLoad_36 rfl rfl rfl ?_
  refine pr_getR0 40 dX2_splitLoad_37 fX2_18 rfl ?_
  refine pr_iload_n 41 dX2_splitLoad_40 rfl rfl rfl ?_
  refine pr_iload_n 42 dX2_splitLoad_41 rfl rfl rfl ?_
  refine pr_iastore l 43 dX2_splitLoad_42 rfl rfl rfl (by omega) rfl ?_
  refine pr_aload_n 44 dX2_splitLoad_43 rfl rfl rfl ?_
  refine pr_dup rfl 45 dX2_splitLoad_44 rfl ?_
  refine pr_getI 48 dX2_splitLoad_45 fX2_60 rfl ?_
  rw [pm_gI, if_neg (by simp), pm_gI, if_neg (by simp), pm_gI, if_neg (by simp), l1]
  refine pr_iconst (1) 49 dX2_splitLoad_48 (by decide) rfl ?_
  refine pr_iadd 50 dX2_splitLoad_49 rfl ?_
  rw [show (1 : Int32) = nI 1 from rfl, nI_add]
  refine pr_putI 53 dX2_splitLoad_50 fX2_60 rfl ?_
  refine pr_return dX2_splitLoad_53 rfl ?_
  refine ⟨rfl, (((pm_fr.rf.uI ⟨by simp, rfl⟩).uI ⟨by simp, rfl⟩).uI ⟨by simp, rfl⟩).uI ⟨by simp, rfl⟩, by rw [pm_gI, if_pos ⟨rfl, rfl, rfl⟩], fun k hk => ?_⟩
  simp only [pm_gI]
  rcases Nat.lt_or_ge k M with z | z
  · have y : ¬ k = M := by omega
    obtain ⟨q1, q2⟩ := l2 k z
    by_cases x : k = l
    · subst x
      simp [y, q2]
    · simp [y, x, q1, q2]
  · have y : k = M := by omega
    subst y
    have x : ¬ k = l := by omega
    simp [x]
end PTR
