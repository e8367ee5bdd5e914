/-! Ledger: what it reads of the desk and of the routes -/
/-- desk d holds K -/
def deskR (mem : pm_M) (d : Nat) (K : Nat → Nat) : Prop :=
  mem.1 10000900 d 0 = nI (K 36) ∧ mem.1 10000900 d 1 = nI (K 37) ∧ mem.1 10000900 d 2 = nI (K 38) ∧ mem.1 10000900 d 3 = nI (K 39) ∧ mem.1 10000900 d 4 = nI (K 40) ∧
  (∀ p, p < K 37 → mem.1 20012006 d p = nI (K (41 + p)) ∧ mem.1 20012007 d p = nI (K (53 + p))) ∧
  (∀ k, k < K 38 → mem.1 20004008 d k = nI (K (65 + k)) ∧ mem.1 20004009 d k = nI (K k)) ∧
  (∀ l, l < K 39 → mem.1 20016010 d l = nI (K (20 + l)) ∧ mem.1 20016011 d l = nI (K (69 + l)) ∧ mem.1 20016012 d l = nI (K (85 + l))) ∧
  (∀ t, t < K 40 → mem.1 20016013 d t = nI (K (101 + 6 * t)) ∧ mem.1 20016014 d t = nI (K (4 + t)) - 1 ∧ mem.1 20016015 d t = nI (K (104 + 6 * t)))
/-- what of the routes the ledger reads -/
def routR (mem : pm_M) (K : Nat → Nat) : Prop :=
  (∀ t, t < K 40 → mem.1 20016201 0 t = nI (K (102 + 6 * t)) ∧ mem.1 20016202 0 t = nI (K (103 + 6 * t)) ∧ mem.1 20016203 0 t = nI (K (105 + 6 * t)) ∧ mem.1 20016204 0 t = nI (K (106 + 6 * t))) ∧
  (∀ t l, t < K 40 → (K (106 + 6 * t)).testBit l = true → mem.1 20016605 t l = nI (K (197 + 16 * t + l)) ∧ mem.1 20016606 t l = nI (K (453 + 16 * t + l)))
theorem fuI {v : Nat} (hv : v ≤ 10000) : nI v - 1 = -1 ↔ v = 0 := by
  constructor
  · intro h
    rcases Nat.eq_zero_or_pos v with z | z
    · exact z
    · exfalso
      obtain ⟨u, rfl⟩ : ∃ u, v = u + 1 := ⟨v - 1, by omega⟩
      rw [nI_pred] at h
      have := congrArg Int32.toInt h
      rw [nI_toInt (by omega)] at this
      have e : (-1 : Int32).toInt = -1 := rfl
      rw [e] at this
      omega
  · rintro rfl; rfl
theorem fuV {v : Nat} (hv : ¬ v = 0) : nI v - 1 = nI (v - 1) := by
  obtain ⟨u, rfl⟩ : ∃ u, v = u + 1 := ⟨v - 1, by omega⟩
  rw [nI_pred]; rfl
theorem deskR.dist {mem : pm_M} {d : Nat} {K : Nat → Nat} (h : deskR mem d K) (hW : WF K) {a b : Nat} (ha : a < K 37) (hb : b < K 37) : Cd yX0_distance cX0_distance 3 (some .int) 1 22 [pR 10000900 d, pI (nI a), pI (nI b)] mem (some (pI (nI (dd K a b)))) mem := by
  have h12 := hW.2.1
  have h7 := hW.2.2.2.2.2.2.1
  have := sp_X0_distance (mem := mem) d a b (by omega) (by omega)
  have e := h.2.2.2.2.2.1
  rw [(e a ha).1, (e b hb).1, (e a ha).2, (e b hb).2, abI (by have := (h7 a (by omega)).1; omega) (by have := (h7 b (by omega)).1; omega), abI (by have := (h7 a (by omega)).2; omega) (by have := (h7 b (by omega)).2; omega), nI_add] at this
  exact this
/-- a ledger's own: its desk, its routes, its loads -/
def ledR (mem : pm_M) (L d : Nat) (w lk : Nat → Nat) (M : Nat) : Prop :=
  mem.2.2 10002902 L 1 = some d ∧ mem.2.2 10002902 L 2 = some 0 ∧ mem.1 10002902 L 3 = nI M ∧ ∀ l, l < M → mem.1 20016084 L l = nI (w l) ∧ mem.1 20016085 L l = nI (lk l)
set_option maxRecDepth 100000 in
theorem sp_X2_estimateOf {mem : pm_M} {L d M : Nat} {K w lk : Nat → Nat} (hd : deskR mem d K) (hr : routR mem K) (hW : WF K) (hl : ledR mem L d w lk M) {t : Nat} (ht : t < K 40) : Cd yX2_estimateOf cX2_estimateOf 2 (some .int) 0 0 [pR 10002902 L, pI (nI t)] mem (some (pI (nI (est K t)))) mem := by
  obtain ⟨-, -, h3, -, h5, h6, -, -, h9, -⟩ := hW
  obtain ⟨a1, a2, a3, -⟩ := h9 t ht
  obtain ⟨b1, b2, b3⟩ := hd.2.2.2.2.2.2.2.2 t ht
  have hu := (h6 (K (101 + 6 * t)) (by omega)).2
  have hmul : K (65 + K (101 + 6 * t)) * K (102 + 6 * t) ≤ 999 * 39600 := Nat.mul_le_mul hu a3
  obtain ⟨l1, l2, l3, l4⟩ := hl
  refine Cl.of (own := RX2) rfl rfl (Nat.le_of_ble_eq_true rfl) rfl ?_; show PR _ _ _ _ _ _ [some _, some _] _ _ _
  refine pr_aload_n 1 dX2_estimateOf_0 rfl rfl rfl ?_
  refine pr_getP _ 4 dX2_estimateOf_1 fX2_62 (by assumption) rfl ?_
  refine pr_getR0 7 dX2_estimateOf_4 fX2_99 rfl ?_
  refine pr_iload_n 8 dX2_estimateOf_7 rfl rfl rfl ?_
  refine pr_iaload t 9 dX2_estimateOf_8 rfl rfl rfl (by omega) rfl ?_
  rw [b2]
  refine pr_iconst (-1) 10 dX2_estimateOf_9 (by decide) rfl ?_
  refine pr_icmp_eq 23 13 dX2_estimateOf_10 rfl rfl (fun c_10 => ?_) (fun c_10 => ?_)
  · refine pr_aload_n 24 dX2_estimateOf_23 rfl rfl rfl ?_
    refine pr_getP _ 27 dX2_estimateOf_24 fX2_62 (by assumption) rfl ?_
    refine pr_getR0 30 dX2_estimateOf_27 fX2_102 rfl ?_
    refine pr_aload_n 31 dX2_estimateOf_30 rfl rfl rfl ?_
    refine pr_getP _ 34 dX2_estimateOf_31 fX2_62 (by assumption) rfl ?_
    refine pr_getR0 37 dX2_estimateOf_34 fX2_105 rfl ?_
    refine pr_iload_n 38 dX2_estimateOf_37 rfl rfl rfl ?_
    refine pr_iaload t 39 dX2_estimateOf_38 rfl rfl rfl (by omega) rfl ?_
    rw [b1]
    refine pr_iaload (K (101 + 6 * t)) 40 dX2_estimateOf_39 rfl rfl rfl (by omega) rfl ?_
    rw [(hd.2.2.2.2.2.2.1 _ a2).1]
    refine pr_aload_n 41 dX2_estimateOf_40 rfl rfl rfl ?_
    refine pr_getP _ 44 dX2_estimateOf_41 fX2_66 (by assumption) rfl ?_
    refine pr_getR0 47 dX2_estimateOf_44 fX2_108 rfl ?_
    refine pr_iload_n 48 dX2_estimateOf_47 rfl rfl rfl ?_
    refine pr_iaload t 49 dX2_estimateOf_48 rfl rfl rfl (by omega) rfl ?_
    rw [(hr.1 t ht).1]
    refine pr_imul 50 dX2_estimateOf_49 rfl ?_
    rw [nI_mulN]
    refine pr_bipush (99) 52 dX2_estimateOf_50 (by decide) rfl ?_
    refine pr_iadd 53 dX2_estimateOf_52 rfl ?_
    rw [show (99 : Int32) = nI 99 from rfl, nI_add]
    refine pr_bipush (100) 55 dX2_estimateOf_53 (by decide) rfl ?_
    refine pr_idiv (by decide) 56 dX2_estimateOf_55 rfl ?_
    rw [show (100 : Int32) = nI 100 from rfl, nI_divN (by omega) (by omega)]
    refine pr_ireturn dX2_estimateOf_56 rfl ?_
    refine ⟨?_, rfl⟩
    have hz : K (4 + t) = 0 := (fuI a1).mp c_10
    unfold est
    rw [if_pos hz]
  · refine pr_aload_n 14 dX2_estimateOf_13 rfl rfl rfl ?_
    refine pr_getP _ 17 dX2_estimateOf_14 fX2_62 (by assumption) rfl ?_
    refine pr_getR0 20 dX2_estimateOf_17 fX2_99 rfl ?_
    refine pr_iload_n 21 dX2_estimateOf_20 rfl rfl rfl ?_
    refine pr_iaload t 22 dX2_estimateOf_21 rfl rfl rfl (by omega) rfl ?_
    rw [b2]
    refine pr_ireturn dX2_estimateOf_22 rfl ?_
    refine ⟨?_, rfl⟩
    have hz : ¬ K (4 + t) = 0 := fun z => c_10 ((fuI a1).mpr z)
    unfold est
    rw [if_neg hz, fuV hz]
/-- the rows that measureParts writes -/
def sMs (L t : Nat) : Nat → Nat → Prop := fun t' i' => (t' = 20016089 ∧ i' = L) ∨ (t' = 20016488 ∧ i' = 16 * L + t)
section LMS
variable {mem0 : pm_M} {L d M t : Nat} {K w lk : Nat → Nat} {X : Nat → List (Option pm_v) → List pm_v → pm_M → Prop}
theorem deskR.fr {S : Nat → Nat → Prop} {mem : pm_M} (h : deskR mem0 d K) (hf : pm_fr S mem0 mem) (h1 : ∀ t' ∈ [10000900, 20012006, 20012007, 20004008, 20004009, 20016010, 20016011, 20016012, 20016013, 20016014, 20016015], ¬ S t' d) : deskR mem d K := by
  simp only [List.forall_mem_cons] at h1
  obtain ⟨q1, q2, q3, q4, q5, q6, q7, q8, q9, q10, q11, -⟩ := h1
  unfold deskR
  rw [(hf _ _ q1).1, (hf _ _ q2).1, (hf _ _ q3).1, (hf _ _ q4).1, (hf _ _ q5).1, (hf _ _ q6).1, (hf _ _ q7).1, (hf _ _ q8).1, (hf _ _ q9).1, (hf _ _ q10).1, (hf _ _ q11).1]
  exact h
theorem routR.fr {S : Nat → Nat → Prop} {mem : pm_M} (h : routR mem0 K) (hf : pm_fr S mem0 mem) (h1 : ∀ t' ∈ [20016201, 20016202, 20016203, 20016204, 20016605, 20016606], ∀ i, ¬ S t' i) : routR mem K := by
  simp only [List.forall_mem_cons] at h1
  obtain ⟨q1, q2, q3, q4, q5, q6, -⟩ := h1
  unfold routR
  rw [(hf _ _ (q1 0)).1, (hf _ _ (q2 0)).1, (hf _ _ (q3 0)).1, (hf _ _ (q4 0)).1]
  refine ⟨h.1, fun t l ht hl => ?_⟩
  rw [(hf _ _ (q5 t)).1, (hf _ _ (q6 t)).1]
  exact h.2 t l ht hl
theorem ledR.fr {S : Nat → Nat → Prop} {mem : pm_M} (h : ledR mem0 L d w lk M) (hf : pm_fr S mem0 mem) (h1 : ∀ t' ∈ [10002902, 20016084, 20016085], ¬ S t' L) : ledR mem L d w lk M := by
  simp only [List.forall_mem_cons] at h1
  obtain ⟨q1, q2, q3, -⟩ := h1
  unfold ledR
  rw [(hf _ _ q1).1, (hf _ _ q1).2.2, (hf _ _ q2).1, (hf _ _ q3).1]
  exact h
set_option maxRecDepth 100000 in
theorem lp_X2_measureParts (hd : deskR mem0 d K) (hr : routR mem0 K) (hW : WF K) (hL : ledR mem0 L d w lk M) (hw : WL K w lk M) (ht : t < K 40) {Qr : Option pm_v → pm_M → Prop}
    (hk : ∀ mem, pm_fr (sMs L t) mem0 mem → (∀ l, l < M → mem.1 20016488 (16 * L + t) l = nI (ptl K w lk t l)) → mem.1 20016089 L t = nI (pts K w lk M t) → (∀ u, u ≠ t → mem.1 20016089 L u = mem0.1 20016089 L u) → Qr none mem) :
    ∀ j k mem a3 a4, k + j = M → pm_fr (sMs L t) mem0 mem → (∀ l, l < k → mem.1 20016488 (16 * L + t) l = nI (ptl K w lk t l)) → mem.1 20016089 L t = nI (sm (ptl K w lk t) k) → (∀ u, u ≠ t → mem.1 20016089 L u = mem0.1 20016089 L u) → pm_nl a3 = true → PR cX2_measureParts RX2 5 2 44 9 [some (pR 10002902 L), some (pI (nI t)), some (pI (nI k)), a3, a4] [] mem (pm_RX cX2_measureParts none Qr) := by
  have h16 := hw.1
  have ht16 := hW.2.2.2.2.1
  have hn16 := hW.2.2.2.1
  intro j
  induction j with
  | zero =>
    intro k mem a3 a4 hj hf hp hs ho hn3
    have e : M = k := by omega
    subst e
    obtain ⟨l1, l2, l3, l4⟩ := hL.fr hf (by simp [sMs])
    refine pr_iload_n 10 dX2_measureParts_9 rfl rfl rfl ?_
    refine pr_aload_n 11 dX2_measureParts_10 rfl rfl rfl ?_
    refine pr_getI 14 dX2_measureParts_11 fX2_60 rfl ?_
    rw [l3]
    refine pr_icmp_ge 120 17 dX2_measureParts_14 rfl rfl (fun c_14 => ?_) (fun c_14 => absurd (nI_le (Nat.le_refl _) (by omega)) (c_14))
    refine pr_return dX2_measureParts_120 rfl ?_
    exact hk mem hf hp hs ho
  | succ j ih =>
    intro k mem a3 a4 hj hf hp hs ho hn3
    have hL1 := hL.fr hf (by simp [sMs])
    have hd1 := hd.fr hf (by simp [sMs])
    have hr1 := hr.fr hf (by simp [sMs])
    obtain ⟨l1, l2, l3, l4⟩ := hL1
    obtain ⟨w1, w2⟩ := hw.2 k (by omega)
    have hbt : ∀ mem1, pm_fr (sMs L t) mem0 mem1 → mem1.1 20016488 (16 * L + t) k = nI (ptl K w lk t k) → (∀ l, l < k → mem1.1 20016488 (16 * L + t) l = nI (ptl K w lk t l)) → mem1.1 20016089 L t = nI (sm (ptl K w lk t) k) → (∀ u, u ≠ t → mem1.1 20016089 L u = mem0.1 20016089 L u) → ∀ a4, PR cX2_measureParts RX2 5 2 44 97 [some (pR 10002902 L), some (pI (nI t)), some (pI (nI k)), some (pI (nI (lk k))), a4] [] mem1 (pm_RX cX2_measureParts none Qr) := by
      intro mem1 g1 g2 g3 g4 g5 a4
      refine pr_aload_n 98 dX2_measureParts_97 rfl rfl rfl ?_
      refine pr_getR0 101 dX2_measureParts_98 fX2_36 rfl ?_
      refine pr_iload_n 102 dX2_measureParts_101 rfl rfl rfl ?_
      refine pr_dup2 rfl rfl 103 dX2_measureParts_102 rfl ?_
      refine pr_iaload t 104 dX2_measureParts_103 rfl rfl rfl (by omega) rfl ?_
      rw [g4]
      refine pr_aload_n 105 dX2_measureParts_104 rfl rfl rfl ?_
      refine pr_getR0 108 dX2_measureParts_105 fX2_33 rfl ?_
      refine pr_iload_n 109 dX2_measureParts_108 rfl rfl rfl ?_
      first | refine pr_aaload0 (n := 16) t 20016488 110 dX2_measureParts_109 rfl rfl rfl rfl (by omega) rfl ?_ | refine pr_aaload (n := 16) t 20016488 110 dX2_measureParts_109 rfl rfl rfl rfl (by omega) rfl ?_
      refine pr_iload_n 111 dX2_measureParts_110 rfl rfl rfl ?_
      refine pr_iaload k 112 dX2_measureParts_111 rfl rfl rfl (by omega) rfl ?_
      rw [g2]
      refine pr_iadd 113 dX2_measureParts_112 rfl ?_
      rw [nI_add]
      refine pr_iastore t 114 dX2_measureParts_113 rfl rfl rfl (by omega) rfl ?_
      refine pr_iinc 117 dX2_measureParts_114 rfl (by first | exact pm_inc _ | rfl) (pm_st_2 rfl rfl) rfl ?_
      refine pr_goto 9 dX2_measureParts_117 rfl ?_
      refine ih (k + 1) _ _ _ (by omega) (g1.uI (Or.inl ⟨rfl, rfl⟩)) (fun l hl => ?_) (by rw [pm_gI, if_pos ⟨rfl, rfl, rfl⟩]; rfl) (fun u hu => by rw [pm_gI, if_neg (fun z => hu z.2.2)]; exact g5 u hu) rfl
      rw [pm_gI, if_neg (by simp)]
      rcases Nat.lt_or_ge l k with z | z
      · exact g3 l z
      · have : l = k := by omega
        subst this; exact g2
    have hbit := nI_shr1 (w := K (106 + 6 * t)) (l := lk k) (by omega)
    refine pr_iload_n 10 dX2_measureParts_9 rfl rfl rfl ?_
    refine pr_aload_n 11 dX2_measureParts_10 rfl rfl rfl ?_
    refine pr_getI 14 dX2_measureParts_11 fX2_60 rfl ?_
    rw [l3]
    refine pr_icmp_ge 120 17 dX2_measureParts_14 rfl rfl (fun c_14 => absurd (c_14) (nI_ge (by omega) (by omega))) (fun c_14 => ?_)
    refine pr_aload_n 18 dX2_measureParts_17 rfl rfl rfl ?_
    refine pr_getR0 21 dX2_measureParts_18 fX2_22 rfl ?_
    refine pr_iload_n 22 dX2_measureParts_21 rfl rfl rfl ?_
    refine pr_iaload k 23 dX2_measureParts_22 rfl rfl rfl (by omega) rfl ?_
    rw [(l4 k (by omega)).2]
    refine pr_istore_n 24 dX2_measureParts_23 rfl (pm_st_3 rfl rfl) rfl ?_
    refine pr_aload_n 25 dX2_measureParts_24 rfl rfl rfl ?_
    refine pr_getR0 28 dX2_measureParts_25 fX2_33 rfl ?_
    refine pr_iload_n 29 dX2_measureParts_28 rfl rfl rfl ?_
    first | refine pr_aaload0 (n := 16) t 20016488 30 dX2_measureParts_29 rfl rfl rfl rfl (by omega) rfl ?_ | refine pr_aaload (n := 16) t 20016488 30 dX2_measureParts_29 rfl rfl rfl rfl (by omega) rfl ?_
    refine pr_iload_n 31 dX2_measureParts_30 rfl rfl rfl ?_
    refine pr_iconst (0) 32 dX2_measureParts_31 (by decide) rfl ?_
    refine pr_iastore k 33 dX2_measureParts_32 rfl rfl rfl (by omega) rfl ?_
    refine pr_aload_n 34 dX2_measureParts_33 rfl rfl rfl ?_
    refine pr_getP 0 37 dX2_measureParts_34 fX2_66 l2 rfl ?_
    refine pr_getR0 40 dX2_measureParts_37 fX2_113 rfl ?_
    refine pr_iload_n 41 dX2_measureParts_40 rfl rfl rfl ?_
    refine pr_iaload t 42 dX2_measureParts_41 rfl rfl rfl (by omega) rfl ?_
    rw [pm_gI, if_neg (by simp), (hr1.1 t ht).2.2.2]
    refine pr_iload_n 43 dX2_measureParts_42 rfl rfl rfl ?_
    refine pr_ishr 44 dX2_measureParts_43 rfl ?_
    refine pr_iconst (1) 45 dX2_measureParts_44 (by decide) rfl ?_
    refine pr_iand 46 dX2_measureParts_45 rfl ?_
    rw [hbit]
    refine pr_if_eq 97 49 dX2_measureParts_46 rfl rfl (fun c_46 => ?_) (fun c_46 => ?_)
    · have hb : ¬ (K (106 + 6 * t)).testBit (lk k) = true := fun z => by
        rw [if_pos z] at c_46
        exact absurd c_46 (by decide)
      refine hbt _ (hf.uI (Or.inr ⟨rfl, rfl⟩)) ?_ (fun l hl => ?_) ?_ (fun u hu => ?_) _
      · rw [pm_gI, if_pos ⟨rfl, rfl, rfl⟩, ptl, if_neg hb]; rfl
      · rw [pm_gI, if_neg (by omega)]; exact hp l hl
      · rw [pm_gI, if_neg (by simp)]; exact hs
      · rw [pm_gI, if_neg (by simp)]; exact ho u hu
    · have hb : (K (106 + 6 * t)).testBit (lk k) = true := Decidable.byContradiction (fun z => c_46 (by rw [if_neg z]; rfl))
      obtain ⟨b1, b2, b3⟩ := hW.2.2.2.2.2.2.2.2.2 t (lk k) ht hb
      obtain ⟨e1, e2⟩ := hr1.2 t (lk k) ht hb
      refine pr_aload_n 50 dX2_measureParts_49 rfl rfl rfl ?_
      refine pr_getP d 53 dX2_measureParts_50 fX2_62 l1 rfl ?_
      refine pr_aload_n 54 dX2_measureParts_53 rfl rfl rfl ?_
      refine pr_getP 0 57 dX2_measureParts_54 fX2_66 l2 rfl ?_
      refine pr_getR0 60 dX2_measureParts_57 fX2_116 rfl ?_
      refine pr_iload_n 61 dX2_measureParts_60 rfl rfl rfl ?_
      first | refine pr_aaload0 (n := 16) t 20016605 62 dX2_measureParts_61 rfl rfl rfl rfl (by omega) rfl ?_ | refine pr_aaload (n := 16) t 20016605 62 dX2_measureParts_61 rfl rfl rfl rfl (by omega) rfl ?_
      refine pr_iload_n 63 dX2_measureParts_62 rfl rfl rfl ?_
      refine pr_iaload (lk k) 64 dX2_measureParts_63 rfl rfl rfl (by omega) rfl ?_
      rw [pm_gI, if_neg (by simp), e1]
      refine pr_aload_n 65 dX2_measureParts_64 rfl rfl rfl ?_
      refine pr_getP 0 68 dX2_measureParts_65 fX2_66 l2 rfl ?_
      refine pr_getR0 71 dX2_measureParts_68 fX2_119 rfl ?_
      refine pr_iload_n 72 dX2_measureParts_71 rfl rfl rfl ?_
      first | refine pr_aaload0 (n := 16) t 20016606 73 dX2_measureParts_72 rfl rfl rfl rfl (by omega) rfl ?_ | refine pr_aaload (n := 16) t 20016606 73 dX2_measureParts_72 rfl rfl rfl rfl (by omega) rfl ?_
      refine pr_iload_n 74 dX2_measureParts_73 rfl rfl rfl ?_
      refine pr_iaload (lk k) 75 dX2_measureParts_74 rfl rfl rfl (by omega) rfl ?_
      rw [pm_gI, if_neg (by simp), e2]
      refine pr_invD2 78 dX2_measureParts_75 vX2_122 mX0_distance (deskR.dist (hd1.fr (S := sMs L t) (pm_fr.rf.uI (Or.inr ⟨rfl, rfl⟩)) (by simp [sMs])) hW b2 b3) ⟨Nat.le_of_ble_eq_true rfl, Nat.le_of_ble_eq_true rfl⟩ (Nat.le_of_ble_eq_true rfl) rfl ?_
      refine pr_istore 80 dX2_measureParts_78 (pm_st_4 rfl rfl) rfl ?_
      refine pr_aload_n 81 dX2_measureParts_80 rfl rfl rfl ?_
      refine pr_getR0 84 dX2_measureParts_81 fX2_33 rfl ?_
      refine pr_iload_n 85 dX2_measureParts_84 rfl rfl rfl ?_
      first | refine pr_aaload0 (n := 16) t 20016488 86 dX2_measureParts_85 rfl rfl rfl rfl (by omega) rfl ?_ | refine pr_aaload (n := 16) t 20016488 86 dX2_measureParts_85 rfl rfl rfl rfl (by omega) rfl ?_
      refine pr_iload_n 87 dX2_measureParts_86 rfl rfl rfl ?_
      refine pr_aload_n 88 dX2_measureParts_87 rfl rfl rfl ?_
      refine pr_getR0 91 dX2_measureParts_88 fX2_18 rfl ?_
      refine pr_iload_n 92 dX2_measureParts_91 rfl rfl rfl ?_
      refine pr_iaload k 93 dX2_measureParts_92 rfl rfl rfl (by omega) rfl ?_
      rw [pm_gI, if_neg (by simp), (l4 k (by omega)).1]
      refine pr_iload 95 dX2_measureParts_93 rfl rfl ?_
      refine pr_imul 96 dX2_measureParts_95 rfl ?_
      rw [nI_mulN]
      refine pr_iastore k 97 dX2_measureParts_96 rfl rfl rfl (by omega) rfl ?_
      refine hbt _ ((hf.uI (Or.inr ⟨rfl, rfl⟩)).uI (Or.inr ⟨rfl, rfl⟩)) ?_ (fun l hl => ?_) ?_ (fun u hu => ?_) _
      · rw [pm_gI, if_pos ⟨rfl, rfl, rfl⟩, ptl, if_pos hb]
      · rw [pm_gI, if_neg (by omega), pm_gI, if_neg (by omega)]; exact hp l hl
      · rw [pm_gI, if_neg (by simp), pm_gI, if_neg (by simp)]; exact hs
      · rw [pm_gI, if_neg (by simp), pm_gI, if_neg (by simp)]; exact ho u hu
set_option maxRecDepth 100000 in
theorem sp_X2_measureParts (hd : deskR mem0 d K) (hr : routR mem0 K) (hW : WF K) (hL : ledR mem0 L d w lk M) (hw : WL K w lk M) (ht : t < K 40) : Cl yX2_measureParts cX2_measureParts 5 none 2 44 [pR 10002902 L, pI (nI t)] mem0 (fun r mem => r = none ∧ pm_fr (sMs L t) mem0 mem ∧ (∀ l, l < M → mem.1 20016488 (16 * L + t) l = nI (ptl K w lk t l)) ∧ mem.1 20016089 L t = nI (pts K w lk M t) ∧ (∀ u, u ≠ t → mem.1 20016089 L u = mem0.1 20016089 L u)) := by
  have ht16 := hW.2.2.2.2.1
  refine Cl.of (own := RX2) rfl rfl (Nat.le_of_ble_eq_true rfl) rfl ?_; show PR _ _ _ _ _ _ [some _, some _, none, none, none] _ _ _
  refine pr_aload_n 1 dX2_measureParts_0 rfl rfl rfl ?_
  refine pr_getR0 4 dX2_measureParts_1 fX2_36 rfl ?_
  refine pr_iload_n 5 dX2_measureParts_4 rfl rfl rfl ?_
  refine pr_iconst (0) 6 dX2_measureParts_5 (by decide) rfl ?_
  refine pr_iastore t 7 dX2_measureParts_6 rfl rfl rfl (by omega) rfl ?_
  refine pr_iconst (0) 8 dX2_measureParts_7 (by decide) rfl ?_
  refine pr_istore_n 9 dX2_measureParts_8 rfl (pm_st_2 rfl rfl) rfl ?_
  refine lp_X2_measureParts hd hr hW hL hw ht (fun mem h1 h2 h3 h4 => ⟨rfl, h1, h2, h3, h4⟩) M 0 _ _ _ (by omega) (pm_fr.rf.uI (Or.inl ⟨rfl, rfl⟩)) (fun l hl => absurd hl (Nat.not_lt_zero _)) (by rw [pm_gI, if_pos ⟨rfl, rfl, rfl⟩]; rfl) (fun u hu => by rw [pm_gI, if_neg (fun z => hu z.2.2)]) rfl
end LMS
