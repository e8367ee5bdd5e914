/-! the class: words -/
def spA (B : Nat → Nat) (q k : Nat) : Nat → Bool
  | 0 => true
  | m + 1 => spA B q k m && decide (nI (B (q + m)) = pm_ch k m)
theorem spA_le {B : Nat → Nat} {q k : Nat} : ∀ {m n : Nat}, m ≤ n → spA B q k n = true → spA B q k m = true
  | m, 0, h, hs => by have e : m = 0 := by omega
                      rw [e]; rfl
  | m, n + 1, h, hs => by
    by_cases e : m = n + 1
    · rw [e]; exact hs
    · rw [spA, Bool.and_eq_true] at hs
      exact spA_le (by omega) hs.1
section WKD
variable {mem : pm_M} {T q n k : Nat} {B : Nat → Nat}
set_option maxRecDepth 100000 in
theorem sp_X6_spells (ht : tapC mem T B) (hT : T ≤ 840) (hs : mem.1 10006906 0 2 = nI q) (ha : mem.1 10006906 0 4 = nI (q + n)) (hqn : q + n ≤ T) (hk : k < 13) : Cd yX6_spells cX6_spells 3 (some .boolean) 4 120 [pR 10006906 0, pR 99 k] mem (some (pI (if n = pm_len.getD k 0 ∧ spA B q k (pm_len.getD k 0) = true then 1 else 0))) mem := by
  have hl := pm_len_s k hk
  have lp : n = pm_len.getD k 0 → ∀ m j, j + m = pm_len.getD k 0 → spA B q k j = true → PR cX6_spells RX6 3 4 120 20 [some (pR 10006906 0), some (pR 99 k), some (pI (nI j))] [] mem (pm_RX cX6_spells (some .boolean) (fun r' m' => r' = some (pI (if n = pm_len.getD k 0 ∧ spA B q k (pm_len.getD k 0) = true then 1 else 0)) ∧ m' = mem)) := by
    intro en m
    induction m with
    | zero =>
      intro j hj hsp
      have e : j = pm_len.getD k 0 := by omega
      refine pr_iload_n 21 dX6_spells_20 rfl rfl rfl ?_
      refine pr_aload_n 22 dX6_spells_21 rfl rfl rfl ?_
      refine pr_invT0 25 dX6_spells_22 tX6_len hk mJ0_length_8abf5 (sp_length hk) ⟨by decide, by decide⟩ (Nat.le_of_ble_eq_true rfl) rfl ?_
      refine pr_icmp_ge 57 28 dX6_spells_25 rfl rfl (fun c_25 => ?_) (fun c_25 => absurd (by rw [e]; exact Int32.le_refl _) (c_25))
      refine pr_iconst (1) 58 dX6_spells_57 (by decide) rfl ?_
      refine pr_zreturn dX6_spells_58 rfl (by first | exact Or.inl rfl | exact Or.inr rfl) ?_
      exact ⟨by rw [if_pos ⟨en, by rw [← e]; exact hsp⟩], rfl⟩
    | succ m ih =>
      intro j hj hsp
      have eb : byt B T (q + j) = B (q + j) := by rw [byt, if_pos (by omega)]
      refine pr_iload_n 21 dX6_spells_20 rfl rfl rfl ?_
      refine pr_aload_n 22 dX6_spells_21 rfl rfl rfl ?_
      refine pr_invT0 25 dX6_spells_22 tX6_len hk mJ0_length_8abf5 (sp_length hk) ⟨by decide, by decide⟩ (Nat.le_of_ble_eq_true rfl) rfl ?_
      refine pr_icmp_ge 57 28 dX6_spells_25 rfl rfl (fun c_25 => absurd (c_25) (nI_ge (by omega) (by omega))) (fun c_25 => ?_)
      refine pr_aload_n 29 dX6_spells_28 rfl rfl rfl ?_
      refine pr_getR0 32 dX6_spells_29 fX6_9 rfl ?_
      refine pr_aload_n 33 dX6_spells_32 rfl rfl rfl ?_
      refine pr_getI 36 dX6_spells_33 fX6_41 rfl ?_
      rw [hs]
      refine pr_iload_n 37 dX6_spells_36 rfl rfl rfl ?_
      refine pr_iadd 38 dX6_spells_37 rfl ?_
      rw [pm_nadd]
      refine pr_invD1 41 dX6_spells_38 vX6_33 mX7_byteAt (sp_X7_byteAt ht hT (by omega)) ⟨Nat.le_of_ble_eq_true rfl, Nat.le_of_ble_eq_true rfl⟩ (Nat.le_of_ble_eq_true rfl) rfl ?_
      rw [eb]
      refine pr_aload_n 42 dX6_spells_41 rfl rfl rfl ?_
      refine pr_iload_n 43 dX6_spells_42 rfl rfl rfl ?_
      refine pr_invT1 46 dX6_spells_43 tX6_chr hk mJ0_charAt_5068e (sp_charAt hk (by omega)) ⟨by decide, by decide⟩ (Nat.le_of_ble_eq_true rfl) rfl ?_
      by_cases c : nI (B (q + j)) = pm_ch k j
      · refine pr_icmp_eq 51 49 dX6_spells_46 rfl rfl (fun c_46 => ?_) (fun c_46 => absurd (c) (c_46))
        refine pr_iinc 54 dX6_spells_51 rfl (by first | exact pm_inc _ | rfl) (pm_st_2 rfl rfl) rfl ?_
        refine pr_goto 20 dX6_spells_54 rfl ?_
        exact ih (j + 1) (by omega) (by rw [spA, hsp]; simpa using c)
      · have nsp : ¬ (n = pm_len.getD k 0 ∧ spA B q k (pm_len.getD k 0) = true) := fun z => by
          have := spA_le (show j + 1 ≤ pm_len.getD k 0 by omega) z.2
          rw [spA, Bool.and_eq_true] at this
          exact c (by simpa using this.2)
        refine pr_icmp_eq 51 49 dX6_spells_46 rfl rfl (fun c_46 => absurd (c_46) (c)) (fun c_46 => ?_)
        refine pr_iconst (0) 50 dX6_spells_49 (by decide) rfl ?_
        refine pr_zreturn dX6_spells_50 rfl (by first | exact Or.inl rfl | exact Or.inr rfl) ?_
        exact ⟨by rw [if_neg nsp], rfl⟩
  refine Cl.of (own := RX6) rfl rfl (Nat.le_of_ble_eq_true rfl) rfl ?_; show PR _ _ _ _ _ _ [some _, some _, none] _ _ _
  refine pr_aload_n 1 dX6_spells_0 rfl rfl rfl ?_
  refine pr_getI 4 dX6_spells_1 fX6_15 rfl ?_
  rw [ha]
  refine pr_aload_n 5 dX6_spells_4 rfl rfl rfl ?_
  refine pr_getI 8 dX6_spells_5 fX6_41 rfl ?_
  rw [hs]
  refine pr_isub 9 dX6_spells_8 rfl ?_
  rw [nI_subN (by omega), show q + n - q = n by omega]
  refine pr_aload_n 10 dX6_spells_9 rfl rfl rfl ?_
  refine pr_invT0 13 dX6_spells_10 tX6_len hk mJ0_length_8abf5 (sp_length hk) ⟨by decide, by decide⟩ (Nat.le_of_ble_eq_true rfl) rfl ?_
  by_cases c : n = pm_len.getD k 0
  · refine pr_icmp_eq 18 16 dX6_spells_13 rfl rfl (fun c_13 => ?_) (fun c_13 => absurd (by rw [c]) (c_13))
    refine pr_iconst (0) 19 dX6_spells_18 (by decide) rfl ?_
    refine pr_istore_n 20 dX6_spells_19 rfl (pm_st_2 rfl rfl) rfl ?_
    exact lp c (pm_len.getD k 0) 0 (by omega) rfl
  · refine pr_icmp_eq 18 16 dX6_spells_13 rfl rfl (fun c_13 => absurd (c_13) (fun z => c ((nI_eq (by omega) (by omega)).mp z))) (fun c_13 => ?_)
    refine pr_iconst (0) 17 dX6_spells_16 (by decide) rfl ?_
    refine pr_zreturn dX6_spells_17 rfl (by first | exact Or.inl rfl | exact Or.inr rfl) ?_
    exact ⟨by rw [if_neg (fun z => c z.1)], rfl⟩
end WKD
