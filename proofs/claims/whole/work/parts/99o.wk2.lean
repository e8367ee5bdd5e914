/-! the class: the kind of a word: made by wip/whole/gen99o.py -/
section WKE
variable {mem : pm_M} {T q n : Nat} {B : Nat → Nat}
theorem sw_0 (hB : ∀ k, B k < 256) : (n = pm_len.getD 0 0 ∧ spA B q 0 (pm_len.getD 0 0) = true) ↔ (n = 2 ∧ B q = 116 ∧ B (q + 1) = 111) := by
  have e : ∀ i c : Nat, c < 256 → (nI (B i) = nI c ↔ B i = c) := fun i c hc => nI_eq (by have := hB i; omega) (by omega)
  show (n = 2 ∧ (true && decide (nI (B (q + 0)) = nI 116) && decide (nI (B (q + 1)) = nI 111)) = true) ↔ _
  simp only [Bool.true_and, Bool.and_eq_true, decide_eq_true_eq]
  rw [e (q + 0) 116 (by omega), e (q + 1) 111 (by omega), Nat.add_zero]
  try simp only [and_assoc]
theorem sw_1 (hB : ∀ k, B k < 256) : (n = pm_len.getD 1 0 ∧ spA B q 1 (pm_len.getD 1 0) = true) ↔ (n = 2 ∧ B q = 111 ∧ B (q + 1) = 110) := by
  have e : ∀ i c : Nat, c < 256 → (nI (B i) = nI c ↔ B i = c) := fun i c hc => nI_eq (by have := hB i; omega) (by omega)
  show (n = 2 ∧ (true && decide (nI (B (q + 0)) = nI 111) && decide (nI (B (q + 1)) = nI 110)) = true) ↔ _
  simp only [Bool.true_and, Bool.and_eq_true, decide_eq_true_eq]
  rw [e (q + 0) 111 (by omega), e (q + 1) 110 (by omega), Nat.add_zero]
  try simp only [and_assoc]
theorem sw_2 (hB : ∀ k, B k < 256) : (n = pm_len.getD 2 0 ∧ spA B q 2 (pm_len.getD 2 0) = true) ↔ (n = 3 ∧ B q = 111 ∧ B (q + 1) = 102 ∧ B (q + 2) = 102) := by
  have e : ∀ i c : Nat, c < 256 → (nI (B i) = nI c ↔ B i = c) := fun i c hc => nI_eq (by have := hB i; omega) (by omega)
  show (n = 3 ∧ (true && decide (nI (B (q + 0)) = nI 111) && decide (nI (B (q + 1)) = nI 102) && decide (nI (B (q + 2)) = nI 102)) = true) ↔ _
  simp only [Bool.true_and, Bool.and_eq_true, decide_eq_true_eq]
  rw [e (q + 0) 111 (by omega), e (q + 1) 102 (by omega), e (q + 2) 102 (by omega), Nat.add_zero]
  try simp only [and_assoc]
theorem sw_3 (hB : ∀ k, B k < 256) : (n = pm_len.getD 3 0 ∧ spA B q 3 (pm_len.getD 3 0) = true) ↔ (n = 4 ∧ B q = 110 ∧ B (q + 1) = 111 ∧ B (q + 2) = 110 ∧ B (q + 3) = 101) := by
  have e : ∀ i c : Nat, c < 256 → (nI (B i) = nI c ↔ B i = c) := fun i c hc => nI_eq (by have := hB i; omega) (by omega)
  show (n = 4 ∧ (true && decide (nI (B (q + 0)) = nI 110) && decide (nI (B (q + 1)) = nI 111) && decide (nI (B (q + 2)) = nI 110) && decide (nI (B (q + 3)) = nI 101)) = true) ↔ _
  simp only [Bool.true_and, Bool.and_eq_true, decide_eq_true_eq]
  rw [e (q + 0) 110 (by omega), e (q + 1) 111 (by omega), e (q + 2) 110 (by omega), e (q + 3) 101 (by omega), Nat.add_zero]
  try simp only [and_assoc]
theorem sw_4 (hB : ∀ k, B k < 256) : (n = pm_len.getD 4 0 ∧ spA B q 4 (pm_len.getD 4 0) = true) ↔ (n = 4 ∧ B q = 100 ∧ B (q + 1) = 101 ∧ B (q + 2) = 115 ∧ B (q + 3) = 107) := by
  have e : ∀ i c : Nat, c < 256 → (nI (B i) = nI c ↔ B i = c) := fun i c hc => nI_eq (by have := hB i; omega) (by omega)
  show (n = 4 ∧ (true && decide (nI (B (q + 0)) = nI 100) && decide (nI (B (q + 1)) = nI 101) && decide (nI (B (q + 2)) = nI 115) && decide (nI (B (q + 3)) = nI 107)) = true) ↔ _
  simp only [Bool.true_and, Bool.and_eq_true, decide_eq_true_eq]
  rw [e (q + 0) 100 (by omega), e (q + 1) 101 (by omega), e (q + 2) 115 (by omega), e (q + 3) 107 (by omega), Nat.add_zero]
  try simp only [and_assoc]
theorem sw_5 (hB : ∀ k, B k < 256) : (n = pm_len.getD 5 0 ∧ spA B q 5 (pm_len.getD 5 0) = true) ↔ (n = 5 ∧ B q = 112 ∧ B (q + 1) = 108 ∧ B (q + 2) = 97 ∧ B (q + 3) = 99 ∧ B (q + 4) = 101) := by
  have e : ∀ i c : Nat, c < 256 → (nI (B i) = nI c ↔ B i = c) := fun i c hc => nI_eq (by have := hB i; omega) (by omega)
  show (n = 5 ∧ (true && decide (nI (B (q + 0)) = nI 112) && decide (nI (B (q + 1)) = nI 108) && decide (nI (B (q + 2)) = nI 97) && decide (nI (B (q + 3)) = nI 99) && decide (nI (B (q + 4)) = nI 101)) = true) ↔ _
  simp only [Bool.true_and, Bool.and_eq_true, decide_eq_true_eq]
  rw [e (q + 0) 112 (by omega), e (q + 1) 108 (by omega), e (q + 2) 97 (by omega), e (q + 3) 99 (by omega), e (q + 4) 101 (by omega), Nat.add_zero]
  try simp only [and_assoc]
theorem sw_6 (hB : ∀ k, B k < 256) : (n = pm_len.getD 6 0 ∧ spA B q 6 (pm_len.getD 6 0) = true) ↔ (n = 5 ∧ B q = 116 ∧ B (q + 1) = 114 ∧ B (q + 2) = 117 ∧ B (q + 3) = 99 ∧ B (q + 4) = 107) := by
  have e : ∀ i c : Nat, c < 256 → (nI (B i) = nI c ↔ B i = c) := fun i c hc => nI_eq (by have := hB i; omega) (by omega)
  show (n = 5 ∧ (true && decide (nI (B (q + 0)) = nI 116) && decide (nI (B (q + 1)) = nI 114) && decide (nI (B (q + 2)) = nI 117) && decide (nI (B (q + 3)) = nI 99) && decide (nI (B (q + 4)) = nI 107)) = true) ↔ _
  simp only [Bool.true_and, Bool.and_eq_true, decide_eq_true_eq]
  rw [e (q + 0) 116 (by omega), e (q + 1) 114 (by omega), e (q + 2) 117 (by omega), e (q + 3) 99 (by omega), e (q + 4) 107 (by omega), Nat.add_zero]
  try simp only [and_assoc]
theorem sw_7 (hB : ∀ k, B k < 256) : (n = pm_len.getD 7 0 ∧ spA B q 7 (pm_len.getD 7 0) = true) ↔ (n = 4 ∧ B q = 108 ∧ B (q + 1) = 111 ∧ B (q + 2) = 97 ∧ B (q + 3) = 100) := by
  have e : ∀ i c : Nat, c < 256 → (nI (B i) = nI c ↔ B i = c) := fun i c hc => nI_eq (by have := hB i; omega) (by omega)
  show (n = 4 ∧ (true && decide (nI (B (q + 0)) = nI 108) && decide (nI (B (q + 1)) = nI 111) && decide (nI (B (q + 2)) = nI 97) && decide (nI (B (q + 3)) = nI 100)) = true) ↔ _
  simp only [Bool.true_and, Bool.and_eq_true, decide_eq_true_eq]
  rw [e (q + 0) 108 (by omega), e (q + 1) 111 (by omega), e (q + 2) 97 (by omega), e (q + 3) 100 (by omega), Nat.add_zero]
  try simp only [and_assoc]
theorem sw_8 (hB : ∀ k, B k < 256) : (n = pm_len.getD 8 0 ∧ spA B q 8 (pm_len.getD 8 0) = true) ↔ (n = 4 ∧ B q = 116 ∧ B (q + 1) = 114 ∧ B (q + 2) = 105 ∧ B (q + 3) = 112) := by
  have e : ∀ i c : Nat, c < 256 → (nI (B i) = nI c ↔ B i = c) := fun i c hc => nI_eq (by have := hB i; omega) (by omega)
  show (n = 4 ∧ (true && decide (nI (B (q + 0)) = nI 116) && decide (nI (B (q + 1)) = nI 114) && decide (nI (B (q + 2)) = nI 105) && decide (nI (B (q + 3)) = nI 112)) = true) ↔ _
  simp only [Bool.true_and, Bool.and_eq_true, decide_eq_true_eq]
  rw [e (q + 0) 116 (by omega), e (q + 1) 114 (by omega), e (q + 2) 105 (by omega), e (q + 3) 112 (by omega), Nat.add_zero]
  try simp only [and_assoc]
set_option maxRecDepth 100000 in
theorem sp_X6_wordKind (ht : tapC mem T B) (hT : T ≤ 840) (hB : ∀ k, B k < 256) (hs : mem.1 10006906 0 2 = nI q) (ha : mem.1 10006906 0 4 = nI (q + n)) (hqn : q + n ≤ T) : Cd yX6_wordKind cX6_wordKind 1 (some .int) 5 142 [pR 10006906 0] mem (some (pI (nI (wk B q n)))) mem := by
  have s8 : ¬ (n = 2 ∧ B q = 116 ∧ B (q + 1) = 111) → ¬ (n = 2 ∧ B q = 111 ∧ B (q + 1) = 110) → ¬ (n = 3 ∧ B q = 111 ∧ B (q + 1) = 102 ∧ B (q + 2) = 102) → ¬ (n = 4 ∧ B q = 110 ∧ B (q + 1) = 111 ∧ B (q + 2) = 110 ∧ B (q + 3) = 101) → ¬ (n = 4 ∧ B q = 100 ∧ B (q + 1) = 101 ∧ B (q + 2) = 115 ∧ B (q + 3) = 107) → ¬ (n = 5 ∧ B q = 112 ∧ B (q + 1) = 108 ∧ B (q + 2) = 97 ∧ B (q + 3) = 99 ∧ B (q + 4) = 101) → ¬ (n = 5 ∧ B q = 116 ∧ B (q + 1) = 114 ∧ B (q + 2) = 117 ∧ B (q + 3) = 99 ∧ B (q + 4) = 107) → ¬ (n = 4 ∧ B q = 108 ∧ B (q + 1) = 111 ∧ B (q + 2) = 97 ∧ B (q + 3) = 100) → PR cX6_wordKind RX6 1 5 142 95 [some (pR 10006906 0)] [] mem (pm_RX cX6_wordKind (some .int) (fun r m => r = some (pI (nI (wk B q n))) ∧ m = mem)) := by
    intro n0 n1 n2 n3 n4 n5 n6 n7
    by_cases c : n = 4 ∧ B q = 116 ∧ B (q + 1) = 114 ∧ B (q + 2) = 105 ∧ B (q + 3) = 112
    · rw [show wk B q n = 9 by rw [wk, if_neg n0, if_neg n1, if_neg n2, if_neg n3, if_neg n4, if_neg n5, if_neg n6, if_neg n7, if_pos c]]
      refine pr_aload_n 96 dX6_wordKind_95 rfl rfl rfl ?_
      refine pr_ldcS 8 "trip" 98 dX6_wordKind_96 rfl rfl rfl ?_
      refine pr_invD1 101 dX6_wordKind_98 vX6_65 mX6_spells (sp_X6_spells (k := 8) ht hT hs ha hqn (by omega)) ⟨Nat.le_of_ble_eq_true rfl, Nat.le_of_ble_eq_true rfl⟩ (Nat.le_of_ble_eq_true rfl) rfl ?_
      refine pr_if_eq 109 104 dX6_wordKind_101 rfl rfl (fun c_101 => absurd (c_101) (by rw [if_pos ((sw_8 hB).mpr c)]; decide)) (fun c_101 => ?_)
      refine pr_bipush (9) 106 dX6_wordKind_104 (by decide) rfl ?_
      refine pr_goto 110 dX6_wordKind_106 rfl ?_
      refine pr_ireturn dX6_wordKind_110 rfl ?_
      exact ⟨rfl, rfl⟩
    · rw [show wk B q n = 4 by rw [wk, if_neg n0, if_neg n1, if_neg n2, if_neg n3, if_neg n4, if_neg n5, if_neg n6, if_neg n7, if_neg c]]
      refine pr_aload_n 96 dX6_wordKind_95 rfl rfl rfl ?_
      refine pr_ldcS 8 "trip" 98 dX6_wordKind_96 rfl rfl rfl ?_
      refine pr_invD1 101 dX6_wordKind_98 vX6_65 mX6_spells (sp_X6_spells (k := 8) ht hT hs ha hqn (by omega)) ⟨Nat.le_of_ble_eq_true rfl, Nat.le_of_ble_eq_true rfl⟩ (Nat.le_of_ble_eq_true rfl) rfl ?_
      refine pr_if_eq 109 104 dX6_wordKind_101 rfl rfl (fun c_101 => ?_) (fun c_101 => absurd (by rw [if_neg (fun z => c ((sw_8 hB).mp z))]) (c_101))
      refine pr_iconst (4) 110 dX6_wordKind_109 (by decide) rfl ?_
      refine pr_ireturn dX6_wordKind_110 rfl ?_
      exact ⟨rfl, rfl⟩
  have s7 : ¬ (n = 2 ∧ B q = 116 ∧ B (q + 1) = 111) → ¬ (n = 2 ∧ B q = 111 ∧ B (q + 1) = 110) → ¬ (n = 3 ∧ B q = 111 ∧ B (q + 1) = 102 ∧ B (q + 2) = 102) → ¬ (n = 4 ∧ B q = 110 ∧ B (q + 1) = 111 ∧ B (q + 2) = 110 ∧ B (q + 3) = 101) → ¬ (n = 4 ∧ B q = 100 ∧ B (q + 1) = 101 ∧ B (q + 2) = 115 ∧ B (q + 3) = 107) → ¬ (n = 5 ∧ B q = 112 ∧ B (q + 1) = 108 ∧ B (q + 2) = 97 ∧ B (q + 3) = 99 ∧ B (q + 4) = 101) → ¬ (n = 5 ∧ B q = 116 ∧ B (q + 1) = 114 ∧ B (q + 2) = 117 ∧ B (q + 3) = 99 ∧ B (q + 4) = 107) → PR cX6_wordKind RX6 1 5 142 83 [some (pR 10006906 0)] [] mem (pm_RX cX6_wordKind (some .int) (fun r m => r = some (pI (nI (wk B q n))) ∧ m = mem)) := by
    intro n0 n1 n2 n3 n4 n5 n6
    by_cases c : n = 4 ∧ B q = 108 ∧ B (q + 1) = 111 ∧ B (q + 2) = 97 ∧ B (q + 3) = 100
    · rw [show wk B q n = 8 by rw [wk, if_neg n0, if_neg n1, if_neg n2, if_neg n3, if_neg n4, if_neg n5, if_neg n6, if_pos c]]
      refine pr_aload_n 84 dX6_wordKind_83 rfl rfl rfl ?_
      refine pr_ldcS 7 "load" 86 dX6_wordKind_84 rfl rfl rfl ?_
      refine pr_invD1 89 dX6_wordKind_86 vX6_65 mX6_spells (sp_X6_spells (k := 7) ht hT hs ha hqn (by omega)) ⟨Nat.le_of_ble_eq_true rfl, Nat.le_of_ble_eq_true rfl⟩ (Nat.le_of_ble_eq_true rfl) rfl ?_
      refine pr_if_eq 95 92 dX6_wordKind_89 rfl rfl (fun c_89 => absurd (c_89) (by rw [if_pos ((sw_7 hB).mpr c)]; decide)) (fun c_89 => ?_)
      refine pr_bipush (8) 94 dX6_wordKind_92 (by decide) rfl ?_
      refine pr_ireturn dX6_wordKind_94 rfl ?_
      exact ⟨rfl, rfl⟩
    · refine pr_aload_n 84 dX6_wordKind_83 rfl rfl rfl ?_
      refine pr_ldcS 7 "load" 86 dX6_wordKind_84 rfl rfl rfl ?_
      refine pr_invD1 89 dX6_wordKind_86 vX6_65 mX6_spells (sp_X6_spells (k := 7) ht hT hs ha hqn (by omega)) ⟨Nat.le_of_ble_eq_true rfl, Nat.le_of_ble_eq_true rfl⟩ (Nat.le_of_ble_eq_true rfl) rfl ?_
      refine pr_if_eq 95 92 dX6_wordKind_89 rfl rfl (fun c_89 => ?_) (fun c_89 => absurd (by rw [if_neg (fun z => c ((sw_7 hB).mp z))]) (c_89))
      exact s8 n0 n1 n2 n3 n4 n5 n6 c
  have s6 : ¬ (n = 2 ∧ B q = 116 ∧ B (q + 1) = 111) → ¬ (n = 2 ∧ B q = 111 ∧ B (q + 1) = 110) → ¬ (n = 3 ∧ B q = 111 ∧ B (q + 1) = 102 ∧ B (q + 2) = 102) → ¬ (n = 4 ∧ B q = 110 ∧ B (q + 1) = 111 ∧ B (q + 2) = 110 ∧ B (q + 3) = 101) → ¬ (n = 4 ∧ B q = 100 ∧ B (q + 1) = 101 ∧ B (q + 2) = 115 ∧ B (q + 3) = 107) → ¬ (n = 5 ∧ B q = 112 ∧ B (q + 1) = 108 ∧ B (q + 2) = 97 ∧ B (q + 3) = 99 ∧ B (q + 4) = 101) → PR cX6_wordKind RX6 1 5 142 71 [some (pR 10006906 0)] [] mem (pm_RX cX6_wordKind (some .int) (fun r m => r = some (pI (nI (wk B q n))) ∧ m = mem)) := by
    intro n0 n1 n2 n3 n4 n5
    by_cases c : n = 5 ∧ B q = 116 ∧ B (q + 1) = 114 ∧ B (q + 2) = 117 ∧ B (q + 3) = 99 ∧ B (q + 4) = 107
    · rw [show wk B q n = 7 by rw [wk, if_neg n0, if_neg n1, if_neg n2, if_neg n3, if_neg n4, if_neg n5, if_pos c]]
      refine pr_aload_n 72 dX6_wordKind_71 rfl rfl rfl ?_
      refine pr_ldcS 6 "truck" 74 dX6_wordKind_72 rfl rfl rfl ?_
      refine pr_invD1 77 dX6_wordKind_74 vX6_65 mX6_spells (sp_X6_spells (k := 6) ht hT hs ha hqn (by omega)) ⟨Nat.le_of_ble_eq_true rfl, Nat.le_of_ble_eq_true rfl⟩ (Nat.le_of_ble_eq_true rfl) rfl ?_
      refine pr_if_eq 83 80 dX6_wordKind_77 rfl rfl (fun c_77 => absurd (c_77) (by rw [if_pos ((sw_6 hB).mpr c)]; decide)) (fun c_77 => ?_)
      refine pr_bipush (7) 82 dX6_wordKind_80 (by decide) rfl ?_
      refine pr_ireturn dX6_wordKind_82 rfl ?_
      exact ⟨rfl, rfl⟩
    · refine pr_aload_n 72 dX6_wordKind_71 rfl rfl rfl ?_
      refine pr_ldcS 6 "truck" 74 dX6_wordKind_72 rfl rfl rfl ?_
      refine pr_invD1 77 dX6_wordKind_74 vX6_65 mX6_spells (sp_X6_spells (k := 6) ht hT hs ha hqn (by omega)) ⟨Nat.le_of_ble_eq_true rfl, Nat.le_of_ble_eq_true rfl⟩ (Nat.le_of_ble_eq_true rfl) rfl ?_
      refine pr_if_eq 83 80 dX6_wordKind_77 rfl rfl (fun c_77 => ?_) (fun c_77 => absurd (by rw [if_neg (fun z => c ((sw_6 hB).mp z))]) (c_77))
      exact s7 n0 n1 n2 n3 n4 n5 c
  have s5 : ¬ (n = 2 ∧ B q = 116 ∧ B (q + 1) = 111) → ¬ (n = 2 ∧ B q = 111 ∧ B (q + 1) = 110) → ¬ (n = 3 ∧ B q = 111 ∧ B (q + 1) = 102 ∧ B (q + 2) = 102) → ¬ (n = 4 ∧ B q = 110 ∧ B (q + 1) = 111 ∧ B (q + 2) = 110 ∧ B (q + 3) = 101) → ¬ (n = 4 ∧ B q = 100 ∧ B (q + 1) = 101 ∧ B (q + 2) = 115 ∧ B (q + 3) = 107) → PR cX6_wordKind RX6 1 5 142 59 [some (pR 10006906 0)] [] mem (pm_RX cX6_wordKind (some .int) (fun r m => r = some (pI (nI (wk B q n))) ∧ m = mem)) := by
    intro n0 n1 n2 n3 n4
    by_cases c : n = 5 ∧ B q = 112 ∧ B (q + 1) = 108 ∧ B (q + 2) = 97 ∧ B (q + 3) = 99 ∧ B (q + 4) = 101
    · rw [show wk B q n = 6 by rw [wk, if_neg n0, if_neg n1, if_neg n2, if_neg n3, if_neg n4, if_pos c]]
      refine pr_aload_n 60 dX6_wordKind_59 rfl rfl rfl ?_
      refine pr_ldcS 5 "place" 62 dX6_wordKind_60 rfl rfl rfl ?_
      refine pr_invD1 65 dX6_wordKind_62 vX6_65 mX6_spells (sp_X6_spells (k := 5) ht hT hs ha hqn (by omega)) ⟨Nat.le_of_ble_eq_true rfl, Nat.le_of_ble_eq_true rfl⟩ (Nat.le_of_ble_eq_true rfl) rfl ?_
      refine pr_if_eq 71 68 dX6_wordKind_65 rfl rfl (fun c_65 => absurd (c_65) (by rw [if_pos ((sw_5 hB).mpr c)]; decide)) (fun c_65 => ?_)
      refine pr_bipush (6) 70 dX6_wordKind_68 (by decide) rfl ?_
      refine pr_ireturn dX6_wordKind_70 rfl ?_
      exact ⟨rfl, rfl⟩
    · refine pr_aload_n 60 dX6_wordKind_59 rfl rfl rfl ?_
      refine pr_ldcS 5 "place" 62 dX6_wordKind_60 rfl rfl rfl ?_
      refine pr_invD1 65 dX6_wordKind_62 vX6_65 mX6_spells (sp_X6_spells (k := 5) ht hT hs ha hqn (by omega)) ⟨Nat.le_of_ble_eq_true rfl, Nat.le_of_ble_eq_true rfl⟩ (Nat.le_of_ble_eq_true rfl) rfl ?_
      refine pr_if_eq 71 68 dX6_wordKind_65 rfl rfl (fun c_65 => ?_) (fun c_65 => absurd (by rw [if_neg (fun z => c ((sw_5 hB).mp z))]) (c_65))
      exact s6 n0 n1 n2 n3 n4 c
  have s4 : ¬ (n = 2 ∧ B q = 116 ∧ B (q + 1) = 111) → ¬ (n = 2 ∧ B q = 111 ∧ B (q + 1) = 110) → ¬ (n = 3 ∧ B q = 111 ∧ B (q + 1) = 102 ∧ B (q + 2) = 102) → ¬ (n = 4 ∧ B q = 110 ∧ B (q + 1) = 111 ∧ B (q + 2) = 110 ∧ B (q + 3) = 101) → PR cX6_wordKind RX6 1 5 142 48 [some (pR 10006906 0)] [] mem (pm_RX cX6_wordKind (some .int) (fun r m => r = some (pI (nI (wk B q n))) ∧ m = mem)) := by
    intro n0 n1 n2 n3
    by_cases c : n = 4 ∧ B q = 100 ∧ B (q + 1) = 101 ∧ B (q + 2) = 115 ∧ B (q + 3) = 107
    · rw [show wk B q n = 5 by rw [wk, if_neg n0, if_neg n1, if_neg n2, if_neg n3, if_pos c]]
      refine pr_aload_n 49 dX6_wordKind_48 rfl rfl rfl ?_
      refine pr_ldcS 4 "desk" 51 dX6_wordKind_49 rfl rfl rfl ?_
      refine pr_invD1 54 dX6_wordKind_51 vX6_65 mX6_spells (sp_X6_spells (k := 4) ht hT hs ha hqn (by omega)) ⟨Nat.le_of_ble_eq_true rfl, Nat.le_of_ble_eq_true rfl⟩ (Nat.le_of_ble_eq_true rfl) rfl ?_
      refine pr_if_eq 59 57 dX6_wordKind_54 rfl rfl (fun c_54 => absurd (c_54) (by rw [if_pos ((sw_4 hB).mpr c)]; decide)) (fun c_54 => ?_)
      refine pr_iconst (5) 58 dX6_wordKind_57 (by decide) rfl ?_
      refine pr_ireturn dX6_wordKind_58 rfl ?_
      exact ⟨rfl, rfl⟩
    · refine pr_aload_n 49 dX6_wordKind_48 rfl rfl rfl ?_
      refine pr_ldcS 4 "desk" 51 dX6_wordKind_49 rfl rfl rfl ?_
      refine pr_invD1 54 dX6_wordKind_51 vX6_65 mX6_spells (sp_X6_spells (k := 4) ht hT hs ha hqn (by omega)) ⟨Nat.le_of_ble_eq_true rfl, Nat.le_of_ble_eq_true rfl⟩ (Nat.le_of_ble_eq_true rfl) rfl ?_
      refine pr_if_eq 59 57 dX6_wordKind_54 rfl rfl (fun c_54 => ?_) (fun c_54 => absurd (by rw [if_neg (fun z => c ((sw_4 hB).mp z))]) (c_54))
      exact s5 n0 n1 n2 n3 c
  have s3 : ¬ (n = 2 ∧ B q = 116 ∧ B (q + 1) = 111) → ¬ (n = 2 ∧ B q = 111 ∧ B (q + 1) = 110) → ¬ (n = 3 ∧ B q = 111 ∧ B (q + 1) = 102 ∧ B (q + 2) = 102) → PR cX6_wordKind RX6 1 5 142 36 [some (pR 10006906 0)] [] mem (pm_RX cX6_wordKind (some .int) (fun r m => r = some (pI (nI (wk B q n))) ∧ m = mem)) := by
    intro n0 n1 n2
    by_cases c : n = 4 ∧ B q = 110 ∧ B (q + 1) = 111 ∧ B (q + 2) = 110 ∧ B (q + 3) = 101
    · rw [show wk B q n = 10 by rw [wk, if_neg n0, if_neg n1, if_neg n2, if_pos c]]
      refine pr_aload_n 37 dX6_wordKind_36 rfl rfl rfl ?_
      refine pr_ldcS 3 "none" 39 dX6_wordKind_37 rfl rfl rfl ?_
      refine pr_invD1 42 dX6_wordKind_39 vX6_65 mX6_spells (sp_X6_spells (k := 3) ht hT hs ha hqn (by omega)) ⟨Nat.le_of_ble_eq_true rfl, Nat.le_of_ble_eq_true rfl⟩ (Nat.le_of_ble_eq_true rfl) rfl ?_
      refine pr_if_eq 48 45 dX6_wordKind_42 rfl rfl (fun c_42 => absurd (c_42) (by rw [if_pos ((sw_3 hB).mpr c)]; decide)) (fun c_42 => ?_)
      refine pr_bipush (10) 47 dX6_wordKind_45 (by decide) rfl ?_
      refine pr_ireturn dX6_wordKind_47 rfl ?_
      exact ⟨rfl, rfl⟩
    · refine pr_aload_n 37 dX6_wordKind_36 rfl rfl rfl ?_
      refine pr_ldcS 3 "none" 39 dX6_wordKind_37 rfl rfl rfl ?_
      refine pr_invD1 42 dX6_wordKind_39 vX6_65 mX6_spells (sp_X6_spells (k := 3) ht hT hs ha hqn (by omega)) ⟨Nat.le_of_ble_eq_true rfl, Nat.le_of_ble_eq_true rfl⟩ (Nat.le_of_ble_eq_true rfl) rfl ?_
      refine pr_if_eq 48 45 dX6_wordKind_42 rfl rfl (fun c_42 => ?_) (fun c_42 => absurd (by rw [if_neg (fun z => c ((sw_3 hB).mp z))]) (c_42))
      exact s4 n0 n1 n2 c
  have s2 : ¬ (n = 2 ∧ B q = 116 ∧ B (q + 1) = 111) → ¬ (n = 2 ∧ B q = 111 ∧ B (q + 1) = 110) → PR cX6_wordKind RX6 1 5 142 24 [some (pR 10006906 0)] [] mem (pm_RX cX6_wordKind (some .int) (fun r m => r = some (pI (nI (wk B q n))) ∧ m = mem)) := by
    intro n0 n1
    by_cases c : n = 3 ∧ B q = 111 ∧ B (q + 1) = 102 ∧ B (q + 2) = 102
    · rw [show wk B q n = 13 by rw [wk, if_neg n0, if_neg n1, if_pos c]]
      refine pr_aload_n 25 dX6_wordKind_24 rfl rfl rfl ?_
      refine pr_ldcS 2 "off" 27 dX6_wordKind_25 rfl rfl rfl ?_
      refine pr_invD1 30 dX6_wordKind_27 vX6_65 mX6_spells (sp_X6_spells (k := 2) ht hT hs ha hqn (by omega)) ⟨Nat.le_of_ble_eq_true rfl, Nat.le_of_ble_eq_true rfl⟩ (Nat.le_of_ble_eq_true rfl) rfl ?_
      refine pr_if_eq 36 33 dX6_wordKind_30 rfl rfl (fun c_30 => absurd (c_30) (by rw [if_pos ((sw_2 hB).mpr c)]; decide)) (fun c_30 => ?_)
      refine pr_bipush (13) 35 dX6_wordKind_33 (by decide) rfl ?_
      refine pr_ireturn dX6_wordKind_35 rfl ?_
      exact ⟨rfl, rfl⟩
    · refine pr_aload_n 25 dX6_wordKind_24 rfl rfl rfl ?_
      refine pr_ldcS 2 "off" 27 dX6_wordKind_25 rfl rfl rfl ?_
      refine pr_invD1 30 dX6_wordKind_27 vX6_65 mX6_spells (sp_X6_spells (k := 2) ht hT hs ha hqn (by omega)) ⟨Nat.le_of_ble_eq_true rfl, Nat.le_of_ble_eq_true rfl⟩ (Nat.le_of_ble_eq_true rfl) rfl ?_
      refine pr_if_eq 36 33 dX6_wordKind_30 rfl rfl (fun c_30 => ?_) (fun c_30 => absurd (by rw [if_neg (fun z => c ((sw_2 hB).mp z))]) (c_30))
      exact s3 n0 n1 c
  have s1 : ¬ (n = 2 ∧ B q = 116 ∧ B (q + 1) = 111) → PR cX6_wordKind RX6 1 5 142 12 [some (pR 10006906 0)] [] mem (pm_RX cX6_wordKind (some .int) (fun r m => r = some (pI (nI (wk B q n))) ∧ m = mem)) := by
    intro n0
    by_cases c : n = 2 ∧ B q = 111 ∧ B (q + 1) = 110
    · rw [show wk B q n = 12 by rw [wk, if_neg n0, if_pos c]]
      refine pr_aload_n 13 dX6_wordKind_12 rfl rfl rfl ?_
      refine pr_ldcS 1 "on" 15 dX6_wordKind_13 rfl rfl rfl ?_
      refine pr_invD1 18 dX6_wordKind_15 vX6_65 mX6_spells (sp_X6_spells (k := 1) ht hT hs ha hqn (by omega)) ⟨Nat.le_of_ble_eq_true rfl, Nat.le_of_ble_eq_true rfl⟩ (Nat.le_of_ble_eq_true rfl) rfl ?_
      refine pr_if_eq 24 21 dX6_wordKind_18 rfl rfl (fun c_18 => absurd (c_18) (by rw [if_pos ((sw_1 hB).mpr c)]; decide)) (fun c_18 => ?_)
      refine pr_bipush (12) 23 dX6_wordKind_21 (by decide) rfl ?_
      refine pr_ireturn dX6_wordKind_23 rfl ?_
      exact ⟨rfl, rfl⟩
    · refine pr_aload_n 13 dX6_wordKind_12 rfl rfl rfl ?_
      refine pr_ldcS 1 "on" 15 dX6_wordKind_13 rfl rfl rfl ?_
      refine pr_invD1 18 dX6_wordKind_15 vX6_65 mX6_spells (sp_X6_spells (k := 1) ht hT hs ha hqn (by omega)) ⟨Nat.le_of_ble_eq_true rfl, Nat.le_of_ble_eq_true rfl⟩ (Nat.le_of_ble_eq_true rfl) rfl ?_
      refine pr_if_eq 24 21 dX6_wordKind_18 rfl rfl (fun c_18 => ?_) (fun c_18 => absurd (by rw [if_neg (fun z => c ((sw_1 hB).mp z))]) (c_18))
      exact s2 n0 c
  have s0 : PR cX6_wordKind RX6 1 5 142 0 [some (pR 10006906 0)] [] mem (pm_RX cX6_wordKind (some .int) (fun r m => r = some (pI (nI (wk B q n))) ∧ m = mem)) := by
    by_cases c : n = 2 ∧ B q = 116 ∧ B (q + 1) = 111
    · rw [show wk B q n = 11 by rw [wk, if_pos c]]
      refine pr_aload_n 1 dX6_wordKind_0 rfl rfl rfl ?_
      refine pr_ldcS 0 "to" 3 dX6_wordKind_1 rfl rfl rfl ?_
      refine pr_invD1 6 dX6_wordKind_3 vX6_65 mX6_spells (sp_X6_spells (k := 0) ht hT hs ha hqn (by omega)) ⟨Nat.le_of_ble_eq_true rfl, Nat.le_of_ble_eq_true rfl⟩ (Nat.le_of_ble_eq_true rfl) rfl ?_
      refine pr_if_eq 12 9 dX6_wordKind_6 rfl rfl (fun c_6 => absurd (c_6) (by rw [if_pos ((sw_0 hB).mpr c)]; decide)) (fun c_6 => ?_)
      refine pr_bipush (11) 11 dX6_wordKind_9 (by decide) rfl ?_
      refine pr_ireturn dX6_wordKind_11 rfl ?_
      exact ⟨rfl, rfl⟩
    · refine pr_aload_n 1 dX6_wordKind_0 rfl rfl rfl ?_
      refine pr_ldcS 0 "to" 3 dX6_wordKind_1 rfl rfl rfl ?_
      refine pr_invD1 6 dX6_wordKind_3 vX6_65 mX6_spells (sp_X6_spells (k := 0) ht hT hs ha hqn (by omega)) ⟨Nat.le_of_ble_eq_true rfl, Nat.le_of_ble_eq_true rfl⟩ (Nat.le_of_ble_eq_true rfl) rfl ?_
      refine pr_if_eq 12 9 dX6_wordKind_6 rfl rfl (fun c_6 => ?_) (fun c_6 => absurd (by rw [if_neg (fun z => c ((sw_0 hB).mp z))]) (c_6))
      exact s1 c
  refine Cl.of (own := RX6) rfl rfl (Nat.le_of_ble_eq_true rfl) rfl ?_; show PR _ _ _ _ _ _ [some _] _ _ _
  exact s0
end WKE
