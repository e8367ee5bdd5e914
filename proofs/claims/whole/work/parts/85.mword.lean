/-! words of the reference; is, bad -/
section WRD
variable {mem mem0 : pm_M} {T p : Nat} {B : Nat → Nat}
theorem wc_6 {B : Nat → Nat} {q : Nat} : ∀ n, wc B q (n + 6) = wc B q 6
  | 0 => rfl
  | n + 1 => by
    rw [show n + 1 + 6 = (n + 6) + 1 by omega, wc, if_neg (by omega)]
    exact wc_6 n
theorem aL_le {B : Nat → Nat} {q : Nat} : ∀ {m n : Nat}, aL B q (n + m) = true → aL B q n = true
  | 0, _, h => h
  | m + 1, n, h => by
    rw [show n + (m + 1) = (n + m) + 1 by omega, aL] at h
    simp at h
    exact aL_le h.1
theorem wc_big {B : Nat → Nat} {q n : Nat} (h : aL B q (n + 6) = true) : 14348907 ≤ wc B q (n + 6) := by
  have h6 : aL B q 6 = true := aL_le (m := n) (by rw [Nat.add_comm]; exact h)
  rw [wc_6]
  simp [aL, isL] at h6
  simp [wc]
  omega
theorem wc_sm {B : Nat → Nat} {q n : Nat} (h : aL B q n = true) : (n = 0 ∧ wc B q n = 0) ∨ (n = 1 ∧ 97 ≤ B q ∧ B q ≤ 122 ∧ wc B q n = B q - 96) ∨
    (n = 2 ∧ 97 ≤ B q ∧ B q ≤ 122 ∧ 97 ≤ B (q + 1) ∧ B (q + 1) ≤ 122 ∧ wc B q n = 27 * (B q - 96) + (B (q + 1) - 96)) ∨
    (n = 3 ∧ 97 ≤ B q ∧ B q ≤ 122 ∧ 97 ≤ B (q + 1) ∧ B (q + 1) ≤ 122 ∧ 97 ≤ B (q + 2) ∧ B (q + 2) ≤ 122 ∧ wc B q n = 27 * (27 * (B q - 96) + (B (q + 1) - 96)) + (B (q + 2) - 96)) ∨
    (n = 4 ∧ 97 ≤ B q ∧ B q ≤ 122 ∧ 97 ≤ B (q + 1) ∧ B (q + 1) ≤ 122 ∧ 97 ≤ B (q + 2) ∧ B (q + 2) ≤ 122 ∧ 97 ≤ B (q + 3) ∧ B (q + 3) ≤ 122 ∧ wc B q n = 27 * (27 * (27 * (B q - 96) + (B (q + 1) - 96)) + (B (q + 2) - 96)) + (B (q + 3) - 96)) ∨
    (n = 5 ∧ 97 ≤ B q ∧ B q ≤ 122 ∧ 97 ≤ B (q + 1) ∧ B (q + 1) ≤ 122 ∧ 97 ≤ B (q + 2) ∧ B (q + 2) ≤ 122 ∧ 97 ≤ B (q + 3) ∧ B (q + 3) ≤ 122 ∧ 97 ≤ B (q + 4) ∧ B (q + 4) ≤ 122 ∧ wc B q n = 27 * (27 * (27 * (27 * (B q - 96) + (B (q + 1) - 96)) + (B (q + 2) - 96)) + (B (q + 3) - 96)) + (B (q + 4) - 96)) ∨
    (6 ≤ n ∧ 14348907 ≤ wc B q n) := by
  rcases n with _ | _ | _ | _ | _ | _ | n
  · simp [wc]
  · simp [aL, isL] at h; simp [wc]; omega
  · simp [aL, isL] at h; simp [wc]; omega
  · simp [aL, isL] at h; simp [wc]; omega
  · simp [aL, isL] at h; simp [wc]; omega
  · simp [aL, isL] at h; simp [wc]; omega
  · exact Or.inr (Or.inr (Or.inr (Or.inr (Or.inr (Or.inr ⟨by omega, wc_big h⟩)))))
theorem wk_to {B : Nat → Nat} {q n : Nat} : wk B q n = 11 ↔ (n = 2 ∧ B q = 116 ∧ B (q + 1) = 111) := by
  unfold wk
  constructor
  · intro h
    repeat' split at h
    all_goals omega
  · intro h
    repeat' split
    all_goals omega
theorem wcs_to {B : Nat → Nat} {q n : Nat} (h : aL B q n = true) : wc B q n = 555 ↔ wk B q n = 11 := by
  rw [wk_to]
  have := wc_sm h
  omega
theorem wk_on {B : Nat → Nat} {q n : Nat} : wk B q n = 12 ↔ (n = 2 ∧ B q = 111 ∧ B (q + 1) = 110) := by
  unfold wk
  constructor
  · intro h
    repeat' split at h
    all_goals omega
  · intro h
    repeat' split
    all_goals omega
theorem wcs_on {B : Nat → Nat} {q n : Nat} (h : aL B q n = true) : wc B q n = 419 ↔ wk B q n = 12 := by
  rw [wk_on]
  have := wc_sm h
  omega
theorem wk_off {B : Nat → Nat} {q n : Nat} : wk B q n = 13 ↔ (n = 3 ∧ B q = 111 ∧ B (q + 1) = 102 ∧ B (q + 2) = 102) := by
  unfold wk
  constructor
  · intro h
    repeat' split at h
    all_goals omega
  · intro h
    repeat' split
    all_goals omega
theorem wcs_off {B : Nat → Nat} {q n : Nat} (h : aL B q n = true) : wc B q n = 11103 ↔ wk B q n = 13 := by
  rw [wk_off]
  have := wc_sm h
  omega
theorem wk_none {B : Nat → Nat} {q n : Nat} : wk B q n = 10 ↔ (n = 4 ∧ B q = 110 ∧ B (q + 1) = 111 ∧ B (q + 2) = 110 ∧ B (q + 3) = 101) := by
  unfold wk
  constructor
  · intro h
    repeat' split at h
    all_goals omega
  · intro h
    repeat' split
    all_goals omega
theorem wcs_none {B : Nat → Nat} {q n : Nat} (h : aL B q n = true) : wc B q n = 286880 ↔ wk B q n = 10 := by
  rw [wk_none]
  have := wc_sm h
  omega
theorem wk_desk {B : Nat → Nat} {q n : Nat} : wk B q n = 5 ↔ (n = 4 ∧ B q = 100 ∧ B (q + 1) = 101 ∧ B (q + 2) = 115 ∧ B (q + 3) = 107) := by
  unfold wk
  constructor
  · intro h
    repeat' split at h
    all_goals omega
  · intro h
    repeat' split
    all_goals omega
theorem wcs_desk {B : Nat → Nat} {q n : Nat} (h : aL B q n = true) : wc B q n = 82901 ↔ wk B q n = 5 := by
  rw [wk_desk]
  have := wc_sm h
  omega
theorem wk_place {B : Nat → Nat} {q n : Nat} : wk B q n = 6 ↔ (n = 5 ∧ B q = 112 ∧ B (q + 1) = 108 ∧ B (q + 2) = 97 ∧ B (q + 3) = 99 ∧ B (q + 4) = 101) := by
  unfold wk
  constructor
  · intro h
    repeat' split at h
    all_goals omega
  · intro h
    repeat' split
    all_goals omega
theorem wcs_place {B : Nat → Nat} {q n : Nat} (h : aL B q n = true) : wc B q n = 8740067 ↔ wk B q n = 6 := by
  rw [wk_place]
  have := wc_sm h
  omega
theorem wk_truck {B : Nat → Nat} {q n : Nat} : wk B q n = 7 ↔ (n = 5 ∧ B q = 116 ∧ B (q + 1) = 114 ∧ B (q + 2) = 117 ∧ B (q + 3) = 99 ∧ B (q + 4) = 107) := by
  unfold wk
  constructor
  · intro h
    repeat' split at h
    all_goals omega
  · intro h
    repeat' split
    all_goals omega
theorem wcs_truck {B : Nat → Nat} {q n : Nat} (h : aL B q n = true) : wc B q n = 10998515 ↔ wk B q n = 7 := by
  rw [wk_truck]
  have := wc_sm h
  omega
theorem wk_load {B : Nat → Nat} {q n : Nat} : wk B q n = 8 ↔ (n = 4 ∧ B q = 108 ∧ B (q + 1) = 111 ∧ B (q + 2) = 97 ∧ B (q + 3) = 100) := by
  unfold wk
  constructor
  · intro h
    repeat' split at h
    all_goals omega
  · intro h
    repeat' split
    all_goals omega
theorem wcs_load {B : Nat → Nat} {q n : Nat} (h : aL B q n = true) : wc B q n = 247162 ↔ wk B q n = 8 := by
  rw [wk_load]
  have := wc_sm h
  omega
theorem wk_trip {B : Nat → Nat} {q n : Nat} : wk B q n = 9 ↔ (n = 4 ∧ B q = 116 ∧ B (q + 1) = 114 ∧ B (q + 2) = 105 ∧ B (q + 3) = 112) := by
  unfold wk
  constructor
  · intro h
    repeat' split at h
    all_goals omega
  · intro h
    repeat' split
    all_goals omega
theorem wcs_trip {B : Nat → Nat} {q n : Nat} (h : aL B q n = true) : wc B q n = 407041 ↔ wk B q n = 9 := by
  rw [wk_trip]
  have := wc_sm h
  omega
theorem mtk_w (h : mtk mem B T p) (hk : 4 ≤ tK B T p) : aL B (tQ B T p) (rn B T (tQ B T p) - tQ B T p) = true ∧ tK B T p = wk B (tQ B T p) (rn B T (tQ B T p) - tQ B T p) := by
  unfold tK at hk ⊢
  split at hk
  · omega
  · split at hk
    · omega
    · split at hk
      · omega
      · split at hk
        · rename_i a b c d
          rw [if_neg a, if_neg b, if_neg c, if_pos d]
          exact ⟨d, rfl⟩
        · split at hk <;> omega
theorem wc_lt {B : Nat → Nat} {q n : Nat} (hB : ∀ k, B k < 256) : wc B q n < 2 ^ 63 := by
  have h6 : wc B q 6 < 2 ^ 63 := by
    have := hB q; have := hB (q + 1); have := hB (q + 2); have := hB (q + 3); have := hB (q + 4); have := hB (q + 5)
    simp [wc]
    omega
  have hs : ∀ n, n ≤ 6 → wc B q n < 2 ^ 63 := by
    have := hB q; have := hB (q + 1); have := hB (q + 2); have := hB (q + 3); have := hB (q + 4); have := hB (q + 5)
    intro n hn
    rcases (by omega : n = 0 ∨ n = 1 ∨ n = 2 ∨ n = 3 ∨ n = 4 ∨ n = 5 ∨ n = 6) with rfl | rfl | rfl | rfl | rfl | rfl | rfl
    all_goals simp [wc]
    all_goals omega
  rcases Nat.lt_or_ge n 6 with z | z
  · exact hs n (by omega)
  · obtain ⟨m, rfl⟩ : ∃ m, n = m + 6 := ⟨n - 6, by omega⟩
    rw [wc_6]
    exact h6
set_option maxRecDepth 100000 in
theorem sp_is_to (h : mtk mem B T p) (hB : ∀ k, B k < 256) : Cd yX9_is cX9_is 8 (some .boolean) 0 0 [pR 10009909 0, pI 116, pI 111, pI 0, pI 0, pI 0] mem (some (pI (if tK B T p = 11 then 1 else 0))) mem := by
  refine Cl.of (own := RX9) rfl rfl (Nat.le_of_ble_eq_true rfl) rfl ?_; show PR _ _ _ _ _ _ [some _, some _, some _, some _, some _, some _, none, none] _ _ _
  by_cases hk : 4 ≤ tK B T p
  · obtain ⟨h1, h2⟩ := mtk_w h hk
    have hw := h.2.2.2.2 hk
    have hc := wcs_to h1
    rw [← h2] at hc
    have hl := wc_lt (q := tQ B T p) (n := rn B T (tQ B T p) - tQ B T p) hB
    have hm : msort (tK B T p) T = 2 := by rw [msort, if_neg (by omega), if_neg (by omega), if_neg (by omega), if_neg (by omega)]
    refine pr_ldc2 _ 3 dX9_is_0 kX9_48 rfl ?_
    refine pr_iload_n 4 dX9_is_3 rfl rfl rfl ?_
    refine pr_i2l 5 dX9_is_4 rfl ?_
    refine pr_ldc2 _ 8 dX9_is_5 kX9_50 rfl ?_
    refine pr_lsub 9 dX9_is_8 rfl ?_
    refine pr_lmul 10 dX9_is_9 rfl ?_
    refine pr_iload_n 11 dX9_is_10 rfl rfl rfl ?_
    refine pr_i2l 12 dX9_is_11 rfl ?_
    refine pr_ladd 13 dX9_is_12 rfl ?_
    refine pr_ldc2 _ 16 dX9_is_13 kX9_50 rfl ?_
    refine pr_lsub 17 dX9_is_16 rfl ?_
    refine pr_lstore 19 dX9_is_17 (pm_st2_6 rfl) rfl ?_
    refine pr_iload_n 20 dX9_is_19 rfl rfl rfl ?_
    refine pr_if_le 38 23 dX9_is_20 rfl rfl (fun c_20 => ?_) (fun c_20 => absurd (by decide) (c_20))
    refine pr_iload 40 dX9_is_38 rfl rfl ?_
    refine pr_if_le 59 43 dX9_is_40 rfl rfl (fun c_40 => ?_) (fun c_40 => absurd (by decide) (c_40))
    refine pr_iload 61 dX9_is_59 rfl rfl ?_
    refine pr_if_le 80 64 dX9_is_61 rfl rfl (fun c_61 => ?_) (fun c_61 => absurd (by decide) (c_61))
    refine pr_aload_n 81 dX9_is_80 rfl rfl rfl ?_
    refine pr_getI 84 dX9_is_81 fX9_27 rfl ?_
    rw [h.1, hm]
    refine pr_iconst (2) 85 dX9_is_84 (by decide) rfl ?_
    refine pr_icmp_ne 102 88 dX9_is_85 rfl rfl (fun c_85 => absurd (rfl) (c_85)) (fun c_85 => ?_)
    refine pr_aload_n 89 dX9_is_88 rfl rfl rfl ?_
    refine pr_getJ 92 dX9_is_89 fX9_37 rfl ?_
    rw [hw]
    refine pr_lload 94 dX9_is_92 rfl rfl ?_
    refine pr_lcmp 95 dX9_is_94 rfl ?_
    refine pr_if_ne 102 98 dX9_is_95 rfl rfl (fun c_95 => ?_) (fun c_95 => ?_)
    · have c2 : ¬ wc B (tQ B T p) (rn B T (tQ B T p) - tQ B T p) = 555 := fun z => c_95 (by rw [z]; decide)
      refine pr_iconst (0) 103 dX9_is_102 (by decide) rfl ?_
      refine pr_zreturn dX9_is_103 rfl (by first | exact Or.inl rfl | exact Or.inr rfl) ?_
      exact ⟨by rw [if_neg (fun z => c2 (hc.mpr z))], rfl⟩
    · have c2 : wc B (tQ B T p) (rn B T (tQ B T p) - tQ B T p) = 555 := (lN_eqI hl (by omega)).mp (by
        have z := c_95
        rw [lg_cmp_eq] at z
        exact z.trans (by decide))
      refine pr_iconst (1) 99 dX9_is_98 (by decide) rfl ?_
      refine pr_goto 103 dX9_is_99 rfl ?_
      refine pr_zreturn dX9_is_103 rfl (by first | exact Or.inl rfl | exact Or.inr rfl) ?_
      exact ⟨by rw [if_pos (hc.mp c2)], rfl⟩
  · have hm : ¬ nI (msort (tK B T p) T) = 2 := by
      unfold msort
      repeat' split
      all_goals first | decide | omega
    refine pr_ldc2 _ 3 dX9_is_0 kX9_48 rfl ?_
    refine pr_iload_n 4 dX9_is_3 rfl rfl rfl ?_
    refine pr_i2l 5 dX9_is_4 rfl ?_
    refine pr_ldc2 _ 8 dX9_is_5 kX9_50 rfl ?_
    refine pr_lsub 9 dX9_is_8 rfl ?_
    refine pr_lmul 10 dX9_is_9 rfl ?_
    refine pr_iload_n 11 dX9_is_10 rfl rfl rfl ?_
    refine pr_i2l 12 dX9_is_11 rfl ?_
    refine pr_ladd 13 dX9_is_12 rfl ?_
    refine pr_ldc2 _ 16 dX9_is_13 kX9_50 rfl ?_
    refine pr_lsub 17 dX9_is_16 rfl ?_
    refine pr_lstore 19 dX9_is_17 (pm_st2_6 rfl) rfl ?_
    refine pr_iload_n 20 dX9_is_19 rfl rfl rfl ?_
    refine pr_if_le 38 23 dX9_is_20 rfl rfl (fun c_20 => ?_) (fun c_20 => absurd (by decide) (c_20))
    refine pr_iload 40 dX9_is_38 rfl rfl ?_
    refine pr_if_le 59 43 dX9_is_40 rfl rfl (fun c_40 => ?_) (fun c_40 => absurd (by decide) (c_40))
    refine pr_iload 61 dX9_is_59 rfl rfl ?_
    refine pr_if_le 80 64 dX9_is_61 rfl rfl (fun c_61 => ?_) (fun c_61 => absurd (by decide) (c_61))
    refine pr_aload_n 81 dX9_is_80 rfl rfl rfl ?_
    refine pr_getI 84 dX9_is_81 fX9_27 rfl ?_
    rw [h.1]
    refine pr_iconst (2) 85 dX9_is_84 (by decide) rfl ?_
    refine pr_icmp_ne 102 88 dX9_is_85 rfl rfl (fun c_85 => ?_) (fun c_85 => absurd (c_85) (hm))
    refine pr_iconst (0) 103 dX9_is_102 (by decide) rfl ?_
    refine pr_zreturn dX9_is_103 rfl (by first | exact Or.inl rfl | exact Or.inr rfl) ?_
    exact ⟨by rw [if_neg (by omega)], rfl⟩
set_option maxRecDepth 100000 in
theorem sp_is_on (h : mtk mem B T p) (hB : ∀ k, B k < 256) : Cd yX9_is cX9_is 8 (some .boolean) 0 0 [pR 10009909 0, pI 111, pI 110, pI 0, pI 0, pI 0] mem (some (pI (if tK B T p = 12 then 1 else 0))) mem := by
  refine Cl.of (own := RX9) rfl rfl (Nat.le_of_ble_eq_true rfl) rfl ?_; show PR _ _ _ _ _ _ [some _, some _, some _, some _, some _, some _, none, none] _ _ _
  by_cases hk : 4 ≤ tK B T p
  · obtain ⟨h1, h2⟩ := mtk_w h hk
    have hw := h.2.2.2.2 hk
    have hc := wcs_on h1
    rw [← h2] at hc
    have hl := wc_lt (q := tQ B T p) (n := rn B T (tQ B T p) - tQ B T p) hB
    have hm : msort (tK B T p) T = 2 := by rw [msort, if_neg (by omega), if_neg (by omega), if_neg (by omega), if_neg (by omega)]
    refine pr_ldc2 _ 3 dX9_is_0 kX9_48 rfl ?_
    refine pr_iload_n 4 dX9_is_3 rfl rfl rfl ?_
    refine pr_i2l 5 dX9_is_4 rfl ?_
    refine pr_ldc2 _ 8 dX9_is_5 kX9_50 rfl ?_
    refine pr_lsub 9 dX9_is_8 rfl ?_
    refine pr_lmul 10 dX9_is_9 rfl ?_
    refine pr_iload_n 11 dX9_is_10 rfl rfl rfl ?_
    refine pr_i2l 12 dX9_is_11 rfl ?_
    refine pr_ladd 13 dX9_is_12 rfl ?_
    refine pr_ldc2 _ 16 dX9_is_13 kX9_50 rfl ?_
    refine pr_lsub 17 dX9_is_16 rfl ?_
    refine pr_lstore 19 dX9_is_17 (pm_st2_6 rfl) rfl ?_
    refine pr_iload_n 20 dX9_is_19 rfl rfl rfl ?_
    refine pr_if_le 38 23 dX9_is_20 rfl rfl (fun c_20 => ?_) (fun c_20 => absurd (by decide) (c_20))
    refine pr_iload 40 dX9_is_38 rfl rfl ?_
    refine pr_if_le 59 43 dX9_is_40 rfl rfl (fun c_40 => ?_) (fun c_40 => absurd (by decide) (c_40))
    refine pr_iload 61 dX9_is_59 rfl rfl ?_
    refine pr_if_le 80 64 dX9_is_61 rfl rfl (fun c_61 => ?_) (fun c_61 => absurd (by decide) (c_61))
    refine pr_aload_n 81 dX9_is_80 rfl rfl rfl ?_
    refine pr_getI 84 dX9_is_81 fX9_27 rfl ?_
    rw [h.1, hm]
    refine pr_iconst (2) 85 dX9_is_84 (by decide) rfl ?_
    refine pr_icmp_ne 102 88 dX9_is_85 rfl rfl (fun c_85 => absurd (rfl) (c_85)) (fun c_85 => ?_)
    refine pr_aload_n 89 dX9_is_88 rfl rfl rfl ?_
    refine pr_getJ 92 dX9_is_89 fX9_37 rfl ?_
    rw [hw]
    refine pr_lload 94 dX9_is_92 rfl rfl ?_
    refine pr_lcmp 95 dX9_is_94 rfl ?_
    refine pr_if_ne 102 98 dX9_is_95 rfl rfl (fun c_95 => ?_) (fun c_95 => ?_)
    · have c2 : ¬ wc B (tQ B T p) (rn B T (tQ B T p) - tQ B T p) = 419 := fun z => c_95 (by rw [z]; decide)
      refine pr_iconst (0) 103 dX9_is_102 (by decide) rfl ?_
      refine pr_zreturn dX9_is_103 rfl (by first | exact Or.inl rfl | exact Or.inr rfl) ?_
      exact ⟨by rw [if_neg (fun z => c2 (hc.mpr z))], rfl⟩
    · have c2 : wc B (tQ B T p) (rn B T (tQ B T p) - tQ B T p) = 419 := (lN_eqI hl (by omega)).mp (by
        have z := c_95
        rw [lg_cmp_eq] at z
        exact z.trans (by decide))
      refine pr_iconst (1) 99 dX9_is_98 (by decide) rfl ?_
      refine pr_goto 103 dX9_is_99 rfl ?_
      refine pr_zreturn dX9_is_103 rfl (by first | exact Or.inl rfl | exact Or.inr rfl) ?_
      exact ⟨by rw [if_pos (hc.mp c2)], rfl⟩
  · have hm : ¬ nI (msort (tK B T p) T) = 2 := by
      unfold msort
      repeat' split
      all_goals first | decide | omega
    refine pr_ldc2 _ 3 dX9_is_0 kX9_48 rfl ?_
    refine pr_iload_n 4 dX9_is_3 rfl rfl rfl ?_
    refine pr_i2l 5 dX9_is_4 rfl ?_
    refine pr_ldc2 _ 8 dX9_is_5 kX9_50 rfl ?_
    refine pr_lsub 9 dX9_is_8 rfl ?_
    refine pr_lmul 10 dX9_is_9 rfl ?_
    refine pr_iload_n 11 dX9_is_10 rfl rfl rfl ?_
    refine pr_i2l 12 dX9_is_11 rfl ?_
    refine pr_ladd 13 dX9_is_12 rfl ?_
    refine pr_ldc2 _ 16 dX9_is_13 kX9_50 rfl ?_
    refine pr_lsub 17 dX9_is_16 rfl ?_
    refine pr_lstore 19 dX9_is_17 (pm_st2_6 rfl) rfl ?_
    refine pr_iload_n 20 dX9_is_19 rfl rfl rfl ?_
    refine pr_if_le 38 23 dX9_is_20 rfl rfl (fun c_20 => ?_) (fun c_20 => absurd (by decide) (c_20))
    refine pr_iload 40 dX9_is_38 rfl rfl ?_
    refine pr_if_le 59 43 dX9_is_40 rfl rfl (fun c_40 => ?_) (fun c_40 => absurd (by decide) (c_40))
    refine pr_iload 61 dX9_is_59 rfl rfl ?_
    refine pr_if_le 80 64 dX9_is_61 rfl rfl (fun c_61 => ?_) (fun c_61 => absurd (by decide) (c_61))
    refine pr_aload_n 81 dX9_is_80 rfl rfl rfl ?_
    refine pr_getI 84 dX9_is_81 fX9_27 rfl ?_
    rw [h.1]
    refine pr_iconst (2) 85 dX9_is_84 (by decide) rfl ?_
    refine pr_icmp_ne 102 88 dX9_is_85 rfl rfl (fun c_85 => ?_) (fun c_85 => absurd (c_85) (hm))
    refine pr_iconst (0) 103 dX9_is_102 (by decide) rfl ?_
    refine pr_zreturn dX9_is_103 rfl (by first | exact Or.inl rfl | exact Or.inr rfl) ?_
    exact ⟨by rw [if_neg (by omega)], rfl⟩
set_option maxRecDepth 100000 in
theorem sp_is_off (h : mtk mem B T p) (hB : ∀ k, B k < 256) : Cd yX9_is cX9_is 8 (some .boolean) 0 0 [pR 10009909 0, pI 111, pI 102, pI 102, pI 0, pI 0] mem (some (pI (if tK B T p = 13 then 1 else 0))) mem := by
  refine Cl.of (own := RX9) rfl rfl (Nat.le_of_ble_eq_true rfl) rfl ?_; show PR _ _ _ _ _ _ [some _, some _, some _, some _, some _, some _, none, none] _ _ _
  by_cases hk : 4 ≤ tK B T p
  · obtain ⟨h1, h2⟩ := mtk_w h hk
    have hw := h.2.2.2.2 hk
    have hc := wcs_off h1
    rw [← h2] at hc
    have hl := wc_lt (q := tQ B T p) (n := rn B T (tQ B T p) - tQ B T p) hB
    have hm : msort (tK B T p) T = 2 := by rw [msort, if_neg (by omega), if_neg (by omega), if_neg (by omega), if_neg (by omega)]
    refine pr_ldc2 _ 3 dX9_is_0 kX9_48 rfl ?_
    refine pr_iload_n 4 dX9_is_3 rfl rfl rfl ?_
    refine pr_i2l 5 dX9_is_4 rfl ?_
    refine pr_ldc2 _ 8 dX9_is_5 kX9_50 rfl ?_
    refine pr_lsub 9 dX9_is_8 rfl ?_
    refine pr_lmul 10 dX9_is_9 rfl ?_
    refine pr_iload_n 11 dX9_is_10 rfl rfl rfl ?_
    refine pr_i2l 12 dX9_is_11 rfl ?_
    refine pr_ladd 13 dX9_is_12 rfl ?_
    refine pr_ldc2 _ 16 dX9_is_13 kX9_50 rfl ?_
    refine pr_lsub 17 dX9_is_16 rfl ?_
    refine pr_lstore 19 dX9_is_17 (pm_st2_6 rfl) rfl ?_
    refine pr_iload_n 20 dX9_is_19 rfl rfl rfl ?_
    refine pr_if_le 38 23 dX9_is_20 rfl rfl (fun c_20 => absurd (c_20) (by decide)) (fun c_20 => ?_)
    refine pr_ldc2 _ 26 dX9_is_23 kX9_48 rfl ?_
    refine pr_lload 28 dX9_is_26 rfl rfl ?_
    refine pr_lmul 29 dX9_is_28 rfl ?_
    refine pr_iload_n 30 dX9_is_29 rfl rfl rfl ?_
    refine pr_i2l 31 dX9_is_30 rfl ?_
    refine pr_ladd 32 dX9_is_31 rfl ?_
    refine pr_ldc2 _ 35 dX9_is_32 kX9_50 rfl ?_
    refine pr_lsub 36 dX9_is_35 rfl ?_
    refine pr_lstore 38 dX9_is_36 (pm_st2_6 rfl) rfl ?_
    refine pr_iload 40 dX9_is_38 rfl rfl ?_
    refine pr_if_le 59 43 dX9_is_40 rfl rfl (fun c_40 => ?_) (fun c_40 => absurd (by decide) (c_40))
    refine pr_iload 61 dX9_is_59 rfl rfl ?_
    refine pr_if_le 80 64 dX9_is_61 rfl rfl (fun c_61 => ?_) (fun c_61 => absurd (by decide) (c_61))
    refine pr_aload_n 81 dX9_is_80 rfl rfl rfl ?_
    refine pr_getI 84 dX9_is_81 fX9_27 rfl ?_
    rw [h.1, hm]
    refine pr_iconst (2) 85 dX9_is_84 (by decide) rfl ?_
    refine pr_icmp_ne 102 88 dX9_is_85 rfl rfl (fun c_85 => absurd (rfl) (c_85)) (fun c_85 => ?_)
    refine pr_aload_n 89 dX9_is_88 rfl rfl rfl ?_
    refine pr_getJ 92 dX9_is_89 fX9_37 rfl ?_
    rw [hw]
    refine pr_lload 94 dX9_is_92 rfl rfl ?_
    refine pr_lcmp 95 dX9_is_94 rfl ?_
    refine pr_if_ne 102 98 dX9_is_95 rfl rfl (fun c_95 => ?_) (fun c_95 => ?_)
    · have c2 : ¬ wc B (tQ B T p) (rn B T (tQ B T p) - tQ B T p) = 11103 := fun z => c_95 (by rw [z]; decide)
      refine pr_iconst (0) 103 dX9_is_102 (by decide) rfl ?_
      refine pr_zreturn dX9_is_103 rfl (by first | exact Or.inl rfl | exact Or.inr rfl) ?_
      exact ⟨by rw [if_neg (fun z => c2 (hc.mpr z))], rfl⟩
    · have c2 : wc B (tQ B T p) (rn B T (tQ B T p) - tQ B T p) = 11103 := (lN_eqI hl (by omega)).mp (by
        have z := c_95
        rw [lg_cmp_eq] at z
        exact z.trans (by decide))
      refine pr_iconst (1) 99 dX9_is_98 (by decide) rfl ?_
      refine pr_goto 103 dX9_is_99 rfl ?_
      refine pr_zreturn dX9_is_103 rfl (by first | exact Or.inl rfl | exact Or.inr rfl) ?_
      exact ⟨by rw [if_pos (hc.mp c2)], rfl⟩
  · have hm : ¬ nI (msort (tK B T p) T) = 2 := by
      unfold msort
      repeat' split
      all_goals first | decide | omega
    refine pr_ldc2 _ 3 dX9_is_0 kX9_48 rfl ?_
    refine pr_iload_n 4 dX9_is_3 rfl rfl rfl ?_
    refine pr_i2l 5 dX9_is_4 rfl ?_
    refine pr_ldc2 _ 8 dX9_is_5 kX9_50 rfl ?_
    refine pr_lsub 9 dX9_is_8 rfl ?_
    refine pr_lmul 10 dX9_is_9 rfl ?_
    refine pr_iload_n 11 dX9_is_10 rfl rfl rfl ?_
    refine pr_i2l 12 dX9_is_11 rfl ?_
    refine pr_ladd 13 dX9_is_12 rfl ?_
    refine pr_ldc2 _ 16 dX9_is_13 kX9_50 rfl ?_
    refine pr_lsub 17 dX9_is_16 rfl ?_
    refine pr_lstore 19 dX9_is_17 (pm_st2_6 rfl) rfl ?_
    refine pr_iload_n 20 dX9_is_19 rfl rfl rfl ?_
    refine pr_if_le 38 23 dX9_is_20 rfl rfl (fun c_20 => absurd (c_20) (by decide)) (fun c_20 => ?_)
    refine pr_ldc2 _ 26 dX9_is_23 kX9_48 rfl ?_
    refine pr_lload 28 dX9_is_26 rfl rfl ?_
    refine pr_lmul 29 dX9_is_28 rfl ?_
    refine pr_iload_n 30 dX9_is_29 rfl rfl rfl ?_
    refine pr_i2l 31 dX9_is_30 rfl ?_
    refine pr_ladd 32 dX9_is_31 rfl ?_
    refine pr_ldc2 _ 35 dX9_is_32 kX9_50 rfl ?_
    refine pr_lsub 36 dX9_is_35 rfl ?_
    refine pr_lstore 38 dX9_is_36 (pm_st2_6 rfl) rfl ?_
    refine pr_iload 40 dX9_is_38 rfl rfl ?_
    refine pr_if_le 59 43 dX9_is_40 rfl rfl (fun c_40 => ?_) (fun c_40 => absurd (by decide) (c_40))
    refine pr_iload 61 dX9_is_59 rfl rfl ?_
    refine pr_if_le 80 64 dX9_is_61 rfl rfl (fun c_61 => ?_) (fun c_61 => absurd (by decide) (c_61))
    refine pr_aload_n 81 dX9_is_80 rfl rfl rfl ?_
    refine pr_getI 84 dX9_is_81 fX9_27 rfl ?_
    rw [h.1]
    refine pr_iconst (2) 85 dX9_is_84 (by decide) rfl ?_
    refine pr_icmp_ne 102 88 dX9_is_85 rfl rfl (fun c_85 => ?_) (fun c_85 => absurd (c_85) (hm))
    refine pr_iconst (0) 103 dX9_is_102 (by decide) rfl ?_
    refine pr_zreturn dX9_is_103 rfl (by first | exact Or.inl rfl | exact Or.inr rfl) ?_
    exact ⟨by rw [if_neg (by omega)], rfl⟩
set_option maxRecDepth 100000 in
theorem sp_is_none (h : mtk mem B T p) (hB : ∀ k, B k < 256) : Cd yX9_is cX9_is 8 (some .boolean) 0 0 [pR 10009909 0, pI 110, pI 111, pI 110, pI 101, pI 0] mem (some (pI (if tK B T p = 10 then 1 else 0))) mem := by
  refine Cl.of (own := RX9) rfl rfl (Nat.le_of_ble_eq_true rfl) rfl ?_; show PR _ _ _ _ _ _ [some _, some _, some _, some _, some _, some _, none, none] _ _ _
  by_cases hk : 4 ≤ tK B T p
  · obtain ⟨h1, h2⟩ := mtk_w h hk
    have hw := h.2.2.2.2 hk
    have hc := wcs_none h1
    rw [← h2] at hc
    have hl := wc_lt (q := tQ B T p) (n := rn B T (tQ B T p) - tQ B T p) hB
    have hm : msort (tK B T p) T = 2 := by rw [msort, if_neg (by omega), if_neg (by omega), if_neg (by omega), if_neg (by omega)]
    refine pr_ldc2 _ 3 dX9_is_0 kX9_48 rfl ?_
    refine pr_iload_n 4 dX9_is_3 rfl rfl rfl ?_
    refine pr_i2l 5 dX9_is_4 rfl ?_
    refine pr_ldc2 _ 8 dX9_is_5 kX9_50 rfl ?_
    refine pr_lsub 9 dX9_is_8 rfl ?_
    refine pr_lmul 10 dX9_is_9 rfl ?_
    refine pr_iload_n 11 dX9_is_10 rfl rfl rfl ?_
    refine pr_i2l 12 dX9_is_11 rfl ?_
    refine pr_ladd 13 dX9_is_12 rfl ?_
    refine pr_ldc2 _ 16 dX9_is_13 kX9_50 rfl ?_
    refine pr_lsub 17 dX9_is_16 rfl ?_
    refine pr_lstore 19 dX9_is_17 (pm_st2_6 rfl) rfl ?_
    refine pr_iload_n 20 dX9_is_19 rfl rfl rfl ?_
    refine pr_if_le 38 23 dX9_is_20 rfl rfl (fun c_20 => absurd (c_20) (by decide)) (fun c_20 => ?_)
    refine pr_ldc2 _ 26 dX9_is_23 kX9_48 rfl ?_
    refine pr_lload 28 dX9_is_26 rfl rfl ?_
    refine pr_lmul 29 dX9_is_28 rfl ?_
    refine pr_iload_n 30 dX9_is_29 rfl rfl rfl ?_
    refine pr_i2l 31 dX9_is_30 rfl ?_
    refine pr_ladd 32 dX9_is_31 rfl ?_
    refine pr_ldc2 _ 35 dX9_is_32 kX9_50 rfl ?_
    refine pr_lsub 36 dX9_is_35 rfl ?_
    refine pr_lstore 38 dX9_is_36 (pm_st2_6 rfl) rfl ?_
    refine pr_iload 40 dX9_is_38 rfl rfl ?_
    refine pr_if_le 59 43 dX9_is_40 rfl rfl (fun c_40 => absurd (c_40) (by decide)) (fun c_40 => ?_)
    refine pr_ldc2 _ 46 dX9_is_43 kX9_48 rfl ?_
    refine pr_lload 48 dX9_is_46 rfl rfl ?_
    refine pr_lmul 49 dX9_is_48 rfl ?_
    refine pr_iload 51 dX9_is_49 rfl rfl ?_
    refine pr_i2l 52 dX9_is_51 rfl ?_
    refine pr_ladd 53 dX9_is_52 rfl ?_
    refine pr_ldc2 _ 56 dX9_is_53 kX9_50 rfl ?_
    refine pr_lsub 57 dX9_is_56 rfl ?_
    refine pr_lstore 59 dX9_is_57 (pm_st2_6 rfl) rfl ?_
    refine pr_iload 61 dX9_is_59 rfl rfl ?_
    refine pr_if_le 80 64 dX9_is_61 rfl rfl (fun c_61 => ?_) (fun c_61 => absurd (by decide) (c_61))
    refine pr_aload_n 81 dX9_is_80 rfl rfl rfl ?_
    refine pr_getI 84 dX9_is_81 fX9_27 rfl ?_
    rw [h.1, hm]
    refine pr_iconst (2) 85 dX9_is_84 (by decide) rfl ?_
    refine pr_icmp_ne 102 88 dX9_is_85 rfl rfl (fun c_85 => absurd (rfl) (c_85)) (fun c_85 => ?_)
    refine pr_aload_n 89 dX9_is_88 rfl rfl rfl ?_
    refine pr_getJ 92 dX9_is_89 fX9_37 rfl ?_
    rw [hw]
    refine pr_lload 94 dX9_is_92 rfl rfl ?_
    refine pr_lcmp 95 dX9_is_94 rfl ?_
    refine pr_if_ne 102 98 dX9_is_95 rfl rfl (fun c_95 => ?_) (fun c_95 => ?_)
    · have c2 : ¬ wc B (tQ B T p) (rn B T (tQ B T p) - tQ B T p) = 286880 := fun z => c_95 (by rw [z]; decide)
      refine pr_iconst (0) 103 dX9_is_102 (by decide) rfl ?_
      refine pr_zreturn dX9_is_103 rfl (by first | exact Or.inl rfl | exact Or.inr rfl) ?_
      exact ⟨by rw [if_neg (fun z => c2 (hc.mpr z))], rfl⟩
    · have c2 : wc B (tQ B T p) (rn B T (tQ B T p) - tQ B T p) = 286880 := (lN_eqI hl (by omega)).mp (by
        have z := c_95
        rw [lg_cmp_eq] at z
        exact z.trans (by decide))
      refine pr_iconst (1) 99 dX9_is_98 (by decide) rfl ?_
      refine pr_goto 103 dX9_is_99 rfl ?_
      refine pr_zreturn dX9_is_103 rfl (by first | exact Or.inl rfl | exact Or.inr rfl) ?_
      exact ⟨by rw [if_pos (hc.mp c2)], rfl⟩
  · have hm : ¬ nI (msort (tK B T p) T) = 2 := by
      unfold msort
      repeat' split
      all_goals first | decide | omega
    refine pr_ldc2 _ 3 dX9_is_0 kX9_48 rfl ?_
    refine pr_iload_n 4 dX9_is_3 rfl rfl rfl ?_
    refine pr_i2l 5 dX9_is_4 rfl ?_
    refine pr_ldc2 _ 8 dX9_is_5 kX9_50 rfl ?_
    refine pr_lsub 9 dX9_is_8 rfl ?_
    refine pr_lmul 10 dX9_is_9 rfl ?_
    refine pr_iload_n 11 dX9_is_10 rfl rfl rfl ?_
    refine pr_i2l 12 dX9_is_11 rfl ?_
    refine pr_ladd 13 dX9_is_12 rfl ?_
    refine pr_ldc2 _ 16 dX9_is_13 kX9_50 rfl ?_
    refine pr_lsub 17 dX9_is_16 rfl ?_
    refine pr_lstore 19 dX9_is_17 (pm_st2_6 rfl) rfl ?_
    refine pr_iload_n 20 dX9_is_19 rfl rfl rfl ?_
    refine pr_if_le 38 23 dX9_is_20 rfl rfl (fun c_20 => absurd (c_20) (by decide)) (fun c_20 => ?_)
    refine pr_ldc2 _ 26 dX9_is_23 kX9_48 rfl ?_
    refine pr_lload 28 dX9_is_26 rfl rfl ?_
    refine pr_lmul 29 dX9_is_28 rfl ?_
    refine pr_iload_n 30 dX9_is_29 rfl rfl rfl ?_
    refine pr_i2l 31 dX9_is_30 rfl ?_
    refine pr_ladd 32 dX9_is_31 rfl ?_
    refine pr_ldc2 _ 35 dX9_is_32 kX9_50 rfl ?_
    refine pr_lsub 36 dX9_is_35 rfl ?_
    refine pr_lstore 38 dX9_is_36 (pm_st2_6 rfl) rfl ?_
    refine pr_iload 40 dX9_is_38 rfl rfl ?_
    refine pr_if_le 59 43 dX9_is_40 rfl rfl (fun c_40 => absurd (c_40) (by decide)) (fun c_40 => ?_)
    refine pr_ldc2 _ 46 dX9_is_43 kX9_48 rfl ?_
    refine pr_lload 48 dX9_is_46 rfl rfl ?_
    refine pr_lmul 49 dX9_is_48 rfl ?_
    refine pr_iload 51 dX9_is_49 rfl rfl ?_
    refine pr_i2l 52 dX9_is_51 rfl ?_
    refine pr_ladd 53 dX9_is_52 rfl ?_
    refine pr_ldc2 _ 56 dX9_is_53 kX9_50 rfl ?_
    refine pr_lsub 57 dX9_is_56 rfl ?_
    refine pr_lstore 59 dX9_is_57 (pm_st2_6 rfl) rfl ?_
    refine pr_iload 61 dX9_is_59 rfl rfl ?_
    refine pr_if_le 80 64 dX9_is_61 rfl rfl (fun c_61 => ?_) (fun c_61 => absurd (by decide) (c_61))
    refine pr_aload_n 81 dX9_is_80 rfl rfl rfl ?_
    refine pr_getI 84 dX9_is_81 fX9_27 rfl ?_
    rw [h.1]
    refine pr_iconst (2) 85 dX9_is_84 (by decide) rfl ?_
    refine pr_icmp_ne 102 88 dX9_is_85 rfl rfl (fun c_85 => ?_) (fun c_85 => absurd (c_85) (hm))
    refine pr_iconst (0) 103 dX9_is_102 (by decide) rfl ?_
    refine pr_zreturn dX9_is_103 rfl (by first | exact Or.inl rfl | exact Or.inr rfl) ?_
    exact ⟨by rw [if_neg (by omega)], rfl⟩
set_option maxRecDepth 100000 in
theorem sp_is_desk (h : mtk mem B T p) (hB : ∀ k, B k < 256) : Cd yX9_is cX9_is 8 (some .boolean) 0 0 [pR 10009909 0, pI 100, pI 101, pI 115, pI 107, pI 0] mem (some (pI (if tK B T p = 5 then 1 else 0))) mem := by
  refine Cl.of (own := RX9) rfl rfl (Nat.le_of_ble_eq_true rfl) rfl ?_; show PR _ _ _ _ _ _ [some _, some _, some _, some _, some _, some _, none, none] _ _ _
  by_cases hk : 4 ≤ tK B T p
  · obtain ⟨h1, h2⟩ := mtk_w h hk
    have hw := h.2.2.2.2 hk
    have hc := wcs_desk h1
    rw [← h2] at hc
    have hl := wc_lt (q := tQ B T p) (n := rn B T (tQ B T p) - tQ B T p) hB
    have hm : msort (tK B T p) T = 2 := by rw [msort, if_neg (by omega), if_neg (by omega), if_neg (by omega), if_neg (by omega)]
    refine pr_ldc2 _ 3 dX9_is_0 kX9_48 rfl ?_
    refine pr_iload_n 4 dX9_is_3 rfl rfl rfl ?_
    refine pr_i2l 5 dX9_is_4 rfl ?_
    refine pr_ldc2 _ 8 dX9_is_5 kX9_50 rfl ?_
    refine pr_lsub 9 dX9_is_8 rfl ?_
    refine pr_lmul 10 dX9_is_9 rfl ?_
    refine pr_iload_n 11 dX9_is_10 rfl rfl rfl ?_
    refine pr_i2l 12 dX9_is_11 rfl ?_
    refine pr_ladd 13 dX9_is_12 rfl ?_
    refine pr_ldc2 _ 16 dX9_is_13 kX9_50 rfl ?_
    refine pr_lsub 17 dX9_is_16 rfl ?_
    refine pr_lstore 19 dX9_is_17 (pm_st2_6 rfl) rfl ?_
    refine pr_iload_n 20 dX9_is_19 rfl rfl rfl ?_
    refine pr_if_le 38 23 dX9_is_20 rfl rfl (fun c_20 => absurd (c_20) (by decide)) (fun c_20 => ?_)
    refine pr_ldc2 _ 26 dX9_is_23 kX9_48 rfl ?_
    refine pr_lload 28 dX9_is_26 rfl rfl ?_
    refine pr_lmul 29 dX9_is_28 rfl ?_
    refine pr_iload_n 30 dX9_is_29 rfl rfl rfl ?_
    refine pr_i2l 31 dX9_is_30 rfl ?_
    refine pr_ladd 32 dX9_is_31 rfl ?_
    refine pr_ldc2 _ 35 dX9_is_32 kX9_50 rfl ?_
    refine pr_lsub 36 dX9_is_35 rfl ?_
    refine pr_lstore 38 dX9_is_36 (pm_st2_6 rfl) rfl ?_
    refine pr_iload 40 dX9_is_38 rfl rfl ?_
    refine pr_if_le 59 43 dX9_is_40 rfl rfl (fun c_40 => absurd (c_40) (by decide)) (fun c_40 => ?_)
    refine pr_ldc2 _ 46 dX9_is_43 kX9_48 rfl ?_
    refine pr_lload 48 dX9_is_46 rfl rfl ?_
    refine pr_lmul 49 dX9_is_48 rfl ?_
    refine pr_iload 51 dX9_is_49 rfl rfl ?_
    refine pr_i2l 52 dX9_is_51 rfl ?_
    refine pr_ladd 53 dX9_is_52 rfl ?_
    refine pr_ldc2 _ 56 dX9_is_53 kX9_50 rfl ?_
    refine pr_lsub 57 dX9_is_56 rfl ?_
    refine pr_lstore 59 dX9_is_57 (pm_st2_6 rfl) rfl ?_
    refine pr_iload 61 dX9_is_59 rfl rfl ?_
    refine pr_if_le 80 64 dX9_is_61 rfl rfl (fun c_61 => ?_) (fun c_61 => absurd (by decide) (c_61))
    refine pr_aload_n 81 dX9_is_80 rfl rfl rfl ?_
    refine pr_getI 84 dX9_is_81 fX9_27 rfl ?_
    rw [h.1, hm]
    refine pr_iconst (2) 85 dX9_is_84 (by decide) rfl ?_
    refine pr_icmp_ne 102 88 dX9_is_85 rfl rfl (fun c_85 => absurd (rfl) (c_85)) (fun c_85 => ?_)
    refine pr_aload_n 89 dX9_is_88 rfl rfl rfl ?_
    refine pr_getJ 92 dX9_is_89 fX9_37 rfl ?_
    rw [hw]
    refine pr_lload 94 dX9_is_92 rfl rfl ?_
    refine pr_lcmp 95 dX9_is_94 rfl ?_
    refine pr_if_ne 102 98 dX9_is_95 rfl rfl (fun c_95 => ?_) (fun c_95 => ?_)
    · have c2 : ¬ wc B (tQ B T p) (rn B T (tQ B T p) - tQ B T p) = 82901 := fun z => c_95 (by rw [z]; decide)
      refine pr_iconst (0) 103 dX9_is_102 (by decide) rfl ?_
      refine pr_zreturn dX9_is_103 rfl (by first | exact Or.inl rfl | exact Or.inr rfl) ?_
      exact ⟨by rw [if_neg (fun z => c2 (hc.mpr z))], rfl⟩
    · have c2 : wc B (tQ B T p) (rn B T (tQ B T p) - tQ B T p) = 82901 := (lN_eqI hl (by omega)).mp (by
        have z := c_95
        rw [lg_cmp_eq] at z
        exact z.trans (by decide))
      refine pr_iconst (1) 99 dX9_is_98 (by decide) rfl ?_
      refine pr_goto 103 dX9_is_99 rfl ?_
      refine pr_zreturn dX9_is_103 rfl (by first | exact Or.inl rfl | exact Or.inr rfl) ?_
      exact ⟨by rw [if_pos (hc.mp c2)], rfl⟩
  · have hm : ¬ nI (msort (tK B T p) T) = 2 := by
      unfold msort
      repeat' split
      all_goals first | decide | omega
    refine pr_ldc2 _ 3 dX9_is_0 kX9_48 rfl ?_
    refine pr_iload_n 4 dX9_is_3 rfl rfl rfl ?_
    refine pr_i2l 5 dX9_is_4 rfl ?_
    refine pr_ldc2 _ 8 dX9_is_5 kX9_50 rfl ?_
    refine pr_lsub 9 dX9_is_8 rfl ?_
    refine pr_lmul 10 dX9_is_9 rfl ?_
    refine pr_iload_n 11 dX9_is_10 rfl rfl rfl ?_
    refine pr_i2l 12 dX9_is_11 rfl ?_
    refine pr_ladd 13 dX9_is_12 rfl ?_
    refine pr_ldc2 _ 16 dX9_is_13 kX9_50 rfl ?_
    refine pr_lsub 17 dX9_is_16 rfl ?_
    refine pr_lstore 19 dX9_is_17 (pm_st2_6 rfl) rfl ?_
    refine pr_iload_n 20 dX9_is_19 rfl rfl rfl ?_
    refine pr_if_le 38 23 dX9_is_20 rfl rfl (fun c_20 => absurd (c_20) (by decide)) (fun c_20 => ?_)
    refine pr_ldc2 _ 26 dX9_is_23 kX9_48 rfl ?_
    refine pr_lload 28 dX9_is_26 rfl rfl ?_
    refine pr_lmul 29 dX9_is_28 rfl ?_
    refine pr_iload_n 30 dX9_is_29 rfl rfl rfl ?_
    refine pr_i2l 31 dX9_is_30 rfl ?_
    refine pr_ladd 32 dX9_is_31 rfl ?_
    refine pr_ldc2 _ 35 dX9_is_32 kX9_50 rfl ?_
    refine pr_lsub 36 dX9_is_35 rfl ?_
    refine pr_lstore 38 dX9_is_36 (pm_st2_6 rfl) rfl ?_
    refine pr_iload 40 dX9_is_38 rfl rfl ?_
    refine pr_if_le 59 43 dX9_is_40 rfl rfl (fun c_40 => absurd (c_40) (by decide)) (fun c_40 => ?_)
    refine pr_ldc2 _ 46 dX9_is_43 kX9_48 rfl ?_
    refine pr_lload 48 dX9_is_46 rfl rfl ?_
    refine pr_lmul 49 dX9_is_48 rfl ?_
    refine pr_iload 51 dX9_is_49 rfl rfl ?_
    refine pr_i2l 52 dX9_is_51 rfl ?_
    refine pr_ladd 53 dX9_is_52 rfl ?_
    refine pr_ldc2 _ 56 dX9_is_53 kX9_50 rfl ?_
    refine pr_lsub 57 dX9_is_56 rfl ?_
    refine pr_lstore 59 dX9_is_57 (pm_st2_6 rfl) rfl ?_
    refine pr_iload 61 dX9_is_59 rfl rfl ?_
    refine pr_if_le 80 64 dX9_is_61 rfl rfl (fun c_61 => ?_) (fun c_61 => absurd (by decide) (c_61))
    refine pr_aload_n 81 dX9_is_80 rfl rfl rfl ?_
    refine pr_getI 84 dX9_is_81 fX9_27 rfl ?_
    rw [h.1]
    refine pr_iconst (2) 85 dX9_is_84 (by decide) rfl ?_
    refine pr_icmp_ne 102 88 dX9_is_85 rfl rfl (fun c_85 => ?_) (fun c_85 => absurd (c_85) (hm))
    refine pr_iconst (0) 103 dX9_is_102 (by decide) rfl ?_
    refine pr_zreturn dX9_is_103 rfl (by first | exact Or.inl rfl | exact Or.inr rfl) ?_
    exact ⟨by rw [if_neg (by omega)], rfl⟩
set_option maxRecDepth 100000 in
theorem sp_is_place (h : mtk mem B T p) (hB : ∀ k, B k < 256) : Cd yX9_is cX9_is 8 (some .boolean) 0 0 [pR 10009909 0, pI 112, pI 108, pI 97, pI 99, pI 101] mem (some (pI (if tK B T p = 6 then 1 else 0))) mem := by
  refine Cl.of (own := RX9) rfl rfl (Nat.le_of_ble_eq_true rfl) rfl ?_; show PR _ _ _ _ _ _ [some _, some _, some _, some _, some _, some _, none, none] _ _ _
  by_cases hk : 4 ≤ tK B T p
  · obtain ⟨h1, h2⟩ := mtk_w h hk
    have hw := h.2.2.2.2 hk
    have hc := wcs_place h1
    rw [← h2] at hc
    have hl := wc_lt (q := tQ B T p) (n := rn B T (tQ B T p) - tQ B T p) hB
    have hm : msort (tK B T p) T = 2 := by rw [msort, if_neg (by omega), if_neg (by omega), if_neg (by omega), if_neg (by omega)]
    refine pr_ldc2 _ 3 dX9_is_0 kX9_48 rfl ?_
    refine pr_iload_n 4 dX9_is_3 rfl rfl rfl ?_
    refine pr_i2l 5 dX9_is_4 rfl ?_
    refine pr_ldc2 _ 8 dX9_is_5 kX9_50 rfl ?_
    refine pr_lsub 9 dX9_is_8 rfl ?_
    refine pr_lmul 10 dX9_is_9 rfl ?_
    refine pr_iload_n 11 dX9_is_10 rfl rfl rfl ?_
    refine pr_i2l 12 dX9_is_11 rfl ?_
    refine pr_ladd 13 dX9_is_12 rfl ?_
    refine pr_ldc2 _ 16 dX9_is_13 kX9_50 rfl ?_
    refine pr_lsub 17 dX9_is_16 rfl ?_
    refine pr_lstore 19 dX9_is_17 (pm_st2_6 rfl) rfl ?_
    refine pr_iload_n 20 dX9_is_19 rfl rfl rfl ?_
    refine pr_if_le 38 23 dX9_is_20 rfl rfl (fun c_20 => absurd (c_20) (by decide)) (fun c_20 => ?_)
    refine pr_ldc2 _ 26 dX9_is_23 kX9_48 rfl ?_
    refine pr_lload 28 dX9_is_26 rfl rfl ?_
    refine pr_lmul 29 dX9_is_28 rfl ?_
    refine pr_iload_n 30 dX9_is_29 rfl rfl rfl ?_
    refine pr_i2l 31 dX9_is_30 rfl ?_
    refine pr_ladd 32 dX9_is_31 rfl ?_
    refine pr_ldc2 _ 35 dX9_is_32 kX9_50 rfl ?_
    refine pr_lsub 36 dX9_is_35 rfl ?_
    refine pr_lstore 38 dX9_is_36 (pm_st2_6 rfl) rfl ?_
    refine pr_iload 40 dX9_is_38 rfl rfl ?_
    refine pr_if_le 59 43 dX9_is_40 rfl rfl (fun c_40 => absurd (c_40) (by decide)) (fun c_40 => ?_)
    refine pr_ldc2 _ 46 dX9_is_43 kX9_48 rfl ?_
    refine pr_lload 48 dX9_is_46 rfl rfl ?_
    refine pr_lmul 49 dX9_is_48 rfl ?_
    refine pr_iload 51 dX9_is_49 rfl rfl ?_
    refine pr_i2l 52 dX9_is_51 rfl ?_
    refine pr_ladd 53 dX9_is_52 rfl ?_
    refine pr_ldc2 _ 56 dX9_is_53 kX9_50 rfl ?_
    refine pr_lsub 57 dX9_is_56 rfl ?_
    refine pr_lstore 59 dX9_is_57 (pm_st2_6 rfl) rfl ?_
    refine pr_iload 61 dX9_is_59 rfl rfl ?_
    refine pr_if_le 80 64 dX9_is_61 rfl rfl (fun c_61 => absurd (c_61) (by decide)) (fun c_61 => ?_)
    refine pr_ldc2 _ 67 dX9_is_64 kX9_48 rfl ?_
    refine pr_lload 69 dX9_is_67 rfl rfl ?_
    refine pr_lmul 70 dX9_is_69 rfl ?_
    refine pr_iload 72 dX9_is_70 rfl rfl ?_
    refine pr_i2l 73 dX9_is_72 rfl ?_
    refine pr_ladd 74 dX9_is_73 rfl ?_
    refine pr_ldc2 _ 77 dX9_is_74 kX9_50 rfl ?_
    refine pr_lsub 78 dX9_is_77 rfl ?_
    refine pr_lstore 80 dX9_is_78 (pm_st2_6 rfl) rfl ?_
    refine pr_aload_n 81 dX9_is_80 rfl rfl rfl ?_
    refine pr_getI 84 dX9_is_81 fX9_27 rfl ?_
    rw [h.1, hm]
    refine pr_iconst (2) 85 dX9_is_84 (by decide) rfl ?_
    refine pr_icmp_ne 102 88 dX9_is_85 rfl rfl (fun c_85 => absurd (rfl) (c_85)) (fun c_85 => ?_)
    refine pr_aload_n 89 dX9_is_88 rfl rfl rfl ?_
    refine pr_getJ 92 dX9_is_89 fX9_37 rfl ?_
    rw [hw]
    refine pr_lload 94 dX9_is_92 rfl rfl ?_
    refine pr_lcmp 95 dX9_is_94 rfl ?_
    refine pr_if_ne 102 98 dX9_is_95 rfl rfl (fun c_95 => ?_) (fun c_95 => ?_)
    · have c2 : ¬ wc B (tQ B T p) (rn B T (tQ B T p) - tQ B T p) = 8740067 := fun z => c_95 (by rw [z]; decide)
      refine pr_iconst (0) 103 dX9_is_102 (by decide) rfl ?_
      refine pr_zreturn dX9_is_103 rfl (by first | exact Or.inl rfl | exact Or.inr rfl) ?_
      exact ⟨by rw [if_neg (fun z => c2 (hc.mpr z))], rfl⟩
    · have c2 : wc B (tQ B T p) (rn B T (tQ B T p) - tQ B T p) = 8740067 := (lN_eqI hl (by omega)).mp (by
        have z := c_95
        rw [lg_cmp_eq] at z
        exact z.trans (by decide))
      refine pr_iconst (1) 99 dX9_is_98 (by decide) rfl ?_
      refine pr_goto 103 dX9_is_99 rfl ?_
      refine pr_zreturn dX9_is_103 rfl (by first | exact Or.inl rfl | exact Or.inr rfl) ?_
      exact ⟨by rw [if_pos (hc.mp c2)], rfl⟩
  · have hm : ¬ nI (msort (tK B T p) T) = 2 := by
      unfold msort
      repeat' split
      all_goals first | decide | omega
    refine pr_ldc2 _ 3 dX9_is_0 kX9_48 rfl ?_
    refine pr_iload_n 4 dX9_is_3 rfl rfl rfl ?_
    refine pr_i2l 5 dX9_is_4 rfl ?_
    refine pr_ldc2 _ 8 dX9_is_5 kX9_50 rfl ?_
    refine pr_lsub 9 dX9_is_8 rfl ?_
    refine pr_lmul 10 dX9_is_9 rfl ?_
    refine pr_iload_n 11 dX9_is_10 rfl rfl rfl ?_
    refine pr_i2l 12 dX9_is_11 rfl ?_
    refine pr_ladd 13 dX9_is_12 rfl ?_
    refine pr_ldc2 _ 16 dX9_is_13 kX9_50 rfl ?_
    refine pr_lsub 17 dX9_is_16 rfl ?_
    refine pr_lstore 19 dX9_is_17 (pm_st2_6 rfl) rfl ?_
    refine pr_iload_n 20 dX9_is_19 rfl rfl rfl ?_
    refine pr_if_le 38 23 dX9_is_20 rfl rfl (fun c_20 => absurd (c_20) (by decide)) (fun c_20 => ?_)
    refine pr_ldc2 _ 26 dX9_is_23 kX9_48 rfl ?_
    refine pr_lload 28 dX9_is_26 rfl rfl ?_
    refine pr_lmul 29 dX9_is_28 rfl ?_
    refine pr_iload_n 30 dX9_is_29 rfl rfl rfl ?_
    refine pr_i2l 31 dX9_is_30 rfl ?_
    refine pr_ladd 32 dX9_is_31 rfl ?_
    refine pr_ldc2 _ 35 dX9_is_32 kX9_50 rfl ?_
    refine pr_lsub 36 dX9_is_35 rfl ?_
    refine pr_lstore 38 dX9_is_36 (pm_st2_6 rfl) rfl ?_
    refine pr_iload 40 dX9_is_38 rfl rfl ?_
    refine pr_if_le 59 43 dX9_is_40 rfl rfl (fun c_40 => absurd (c_40) (by decide)) (fun c_40 => ?_)
    refine pr_ldc2 _ 46 dX9_is_43 kX9_48 rfl ?_
    refine pr_lload 48 dX9_is_46 rfl rfl ?_
    refine pr_lmul 49 dX9_is_48 rfl ?_
    refine pr_iload 51 dX9_is_49 rfl rfl ?_
    refine pr_i2l 52 dX9_is_51 rfl ?_
    refine pr_ladd 53 dX9_is_52 rfl ?_
    refine pr_ldc2 _ 56 dX9_is_53 kX9_50 rfl ?_
    refine pr_lsub 57 dX9_is_56 rfl ?_
    refine pr_lstore 59 dX9_is_57 (pm_st2_6 rfl) rfl ?_
    refine pr_iload 61 dX9_is_59 rfl rfl ?_
    refine pr_if_le 80 64 dX9_is_61 rfl rfl (fun c_61 => absurd (c_61) (by decide)) (fun c_61 => ?_)
    refine pr_ldc2 _ 67 dX9_is_64 kX9_48 rfl ?_
    refine pr_lload 69 dX9_is_67 rfl rfl ?_
    refine pr_lmul 70 dX9_is_69 rfl ?_
    refine pr_iload 72 dX9_is_70 rfl rfl ?_
    refine pr_i2l 73 dX9_is_72 rfl ?_
    refine pr_ladd 74 dX9_is_73 rfl ?_
    refine pr_ldc2 _ 77 dX9_is_74 kX9_50 rfl ?_
    refine pr_lsub 78 dX9_is_77 rfl ?_
    refine pr_lstore 80 dX9_is_78 (pm_st2_6 rfl) rfl ?_
    refine pr_aload_n 81 dX9_is_80 rfl rfl rfl ?_
    refine pr_getI 84 dX9_is_81 fX9_27 rfl ?_
    rw [h.1]
    refine pr_iconst (2) 85 dX9_is_84 (by decide) rfl ?_
    refine pr_icmp_ne 102 88 dX9_is_85 rfl rfl (fun c_85 => ?_) (fun c_85 => absurd (c_85) (hm))
    refine pr_iconst (0) 103 dX9_is_102 (by decide) rfl ?_
    refine pr_zreturn dX9_is_103 rfl (by first | exact Or.inl rfl | exact Or.inr rfl) ?_
    exact ⟨by rw [if_neg (by omega)], rfl⟩
set_option maxRecDepth 100000 in
theorem sp_is_truck (h : mtk mem B T p) (hB : ∀ k, B k < 256) : Cd yX9_is cX9_is 8 (some .boolean) 0 0 [pR 10009909 0, pI 116, pI 114, pI 117, pI 99, pI 107] mem (some (pI (if tK B T p = 7 then 1 else 0))) mem := by
  refine Cl.of (own := RX9) rfl rfl (Nat.le_of_ble_eq_true rfl) rfl ?_; show PR _ _ _ _ _ _ [some _, some _, some _, some _, some _, some _, none, none] _ _ _
  by_cases hk : 4 ≤ tK B T p
  · obtain ⟨h1, h2⟩ := mtk_w h hk
    have hw := h.2.2.2.2 hk
    have hc := wcs_truck h1
    rw [← h2] at hc
    have hl := wc_lt (q := tQ B T p) (n := rn B T (tQ B T p) - tQ B T p) hB
    have hm : msort (tK B T p) T = 2 := by rw [msort, if_neg (by omega), if_neg (by omega), if_neg (by omega), if_neg (by omega)]
    refine pr_ldc2 _ 3 dX9_is_0 kX9_48 rfl ?_
    refine pr_iload_n 4 dX9_is_3 rfl rfl rfl ?_
    refine pr_i2l 5 dX9_is_4 rfl ?_
    refine pr_ldc2 _ 8 dX9_is_5 kX9_50 rfl ?_
    refine pr_lsub 9 dX9_is_8 rfl ?_
    refine pr_lmul 10 dX9_is_9 rfl ?_
    refine pr_iload_n 11 dX9_is_10 rfl rfl rfl ?_
    refine pr_i2l 12 dX9_is_11 rfl ?_
    refine pr_ladd 13 dX9_is_12 rfl ?_
    refine pr_ldc2 _ 16 dX9_is_13 kX9_50 rfl ?_
    refine pr_lsub 17 dX9_is_16 rfl ?_
    refine pr_lstore 19 dX9_is_17 (pm_st2_6 rfl) rfl ?_
    refine pr_iload_n 20 dX9_is_19 rfl rfl rfl ?_
    refine pr_if_le 38 23 dX9_is_20 rfl rfl (fun c_20 => absurd (c_20) (by decide)) (fun c_20 => ?_)
    refine pr_ldc2 _ 26 dX9_is_23 kX9_48 rfl ?_
    refine pr_lload 28 dX9_is_26 rfl rfl ?_
    refine pr_lmul 29 dX9_is_28 rfl ?_
    refine pr_iload_n 30 dX9_is_29 rfl rfl rfl ?_
    refine pr_i2l 31 dX9_is_30 rfl ?_
    refine pr_ladd 32 dX9_is_31 rfl ?_
    refine pr_ldc2 _ 35 dX9_is_32 kX9_50 rfl ?_
    refine pr_lsub 36 dX9_is_35 rfl ?_
    refine pr_lstore 38 dX9_is_36 (pm_st2_6 rfl) rfl ?_
    refine pr_iload 40 dX9_is_38 rfl rfl ?_
    refine pr_if_le 59 43 dX9_is_40 rfl rfl (fun c_40 => absurd (c_40) (by decide)) (fun c_40 => ?_)
    refine pr_ldc2 _ 46 dX9_is_43 kX9_48 rfl ?_
    refine pr_lload 48 dX9_is_46 rfl rfl ?_
    refine pr_lmul 49 dX9_is_48 rfl ?_
    refine pr_iload 51 dX9_is_49 rfl rfl ?_
    refine pr_i2l 52 dX9_is_51 rfl ?_
    refine pr_ladd 53 dX9_is_52 rfl ?_
    refine pr_ldc2 _ 56 dX9_is_53 kX9_50 rfl ?_
    refine pr_lsub 57 dX9_is_56 rfl ?_
    refine pr_lstore 59 dX9_is_57 (pm_st2_6 rfl) rfl ?_
    refine pr_iload 61 dX9_is_59 rfl rfl ?_
    refine pr_if_le 80 64 dX9_is_61 rfl rfl (fun c_61 => absurd (c_61) (by decide)) (fun c_61 => ?_)
    refine pr_ldc2 _ 67 dX9_is_64 kX9_48 rfl ?_
    refine pr_lload 69 dX9_is_67 rfl rfl ?_
    refine pr_lmul 70 dX9_is_69 rfl ?_
    refine pr_iload 72 dX9_is_70 rfl rfl ?_
    refine pr_i2l 73 dX9_is_72 rfl ?_
    refine pr_ladd 74 dX9_is_73 rfl ?_
    refine pr_ldc2 _ 77 dX9_is_74 kX9_50 rfl ?_
    refine pr_lsub 78 dX9_is_77 rfl ?_
    refine pr_lstore 80 dX9_is_78 (pm_st2_6 rfl) rfl ?_
    refine pr_aload_n 81 dX9_is_80 rfl rfl rfl ?_
    refine pr_getI 84 dX9_is_81 fX9_27 rfl ?_
    rw [h.1, hm]
    refine pr_iconst (2) 85 dX9_is_84 (by decide) rfl ?_
    refine pr_icmp_ne 102 88 dX9_is_85 rfl rfl (fun c_85 => absurd (rfl) (c_85)) (fun c_85 => ?_)
    refine pr_aload_n 89 dX9_is_88 rfl rfl rfl ?_
    refine pr_getJ 92 dX9_is_89 fX9_37 rfl ?_
    rw [hw]
    refine pr_lload 94 dX9_is_92 rfl rfl ?_
    refine pr_lcmp 95 dX9_is_94 rfl ?_
    refine pr_if_ne 102 98 dX9_is_95 rfl rfl (fun c_95 => ?_) (fun c_95 => ?_)
    · have c2 : ¬ wc B (tQ B T p) (rn B T (tQ B T p) - tQ B T p) = 10998515 := fun z => c_95 (by rw [z]; decide)
      refine pr_iconst (0) 103 dX9_is_102 (by decide) rfl ?_
      refine pr_zreturn dX9_is_103 rfl (by first | exact Or.inl rfl | exact Or.inr rfl) ?_
      exact ⟨by rw [if_neg (fun z => c2 (hc.mpr z))], rfl⟩
    · have c2 : wc B (tQ B T p) (rn B T (tQ B T p) - tQ B T p) = 10998515 := (lN_eqI hl (by omega)).mp (by
        have z := c_95
        rw [lg_cmp_eq] at z
        exact z.trans (by decide))
      refine pr_iconst (1) 99 dX9_is_98 (by decide) rfl ?_
      refine pr_goto 103 dX9_is_99 rfl ?_
      refine pr_zreturn dX9_is_103 rfl (by first | exact Or.inl rfl | exact Or.inr rfl) ?_
      exact ⟨by rw [if_pos (hc.mp c2)], rfl⟩
  · have hm : ¬ nI (msort (tK B T p) T) = 2 := by
      unfold msort
      repeat' split
      all_goals first | decide | omega
    refine pr_ldc2 _ 3 dX9_is_0 kX9_48 rfl ?_
    refine pr_iload_n 4 dX9_is_3 rfl rfl rfl ?_
    refine pr_i2l 5 dX9_is_4 rfl ?_
    refine pr_ldc2 _ 8 dX9_is_5 kX9_50 rfl ?_
    refine pr_lsub 9 dX9_is_8 rfl ?_
    refine pr_lmul 10 dX9_is_9 rfl ?_
    refine pr_iload_n 11 dX9_is_10 rfl rfl rfl ?_
    refine pr_i2l 12 dX9_is_11 rfl ?_
    refine pr_ladd 13 dX9_is_12 rfl ?_
    refine pr_ldc2 _ 16 dX9_is_13 kX9_50 rfl ?_
    refine pr_lsub 17 dX9_is_16 rfl ?_
    refine pr_lstore 19 dX9_is_17 (pm_st2_6 rfl) rfl ?_
    refine pr_iload_n 20 dX9_is_19 rfl rfl rfl ?_
    refine pr_if_le 38 23 dX9_is_20 rfl rfl (fun c_20 => absurd (c_20) (by decide)) (fun c_20 => ?_)
    refine pr_ldc2 _ 26 dX9_is_23 kX9_48 rfl ?_
    refine pr_lload 28 dX9_is_26 rfl rfl ?_
    refine pr_lmul 29 dX9_is_28 rfl ?_
    refine pr_iload_n 30 dX9_is_29 rfl rfl rfl ?_
    refine pr_i2l 31 dX9_is_30 rfl ?_
    refine pr_ladd 32 dX9_is_31 rfl ?_
    refine pr_ldc2 _ 35 dX9_is_32 kX9_50 rfl ?_
    refine pr_lsub 36 dX9_is_35 rfl ?_
    refine pr_lstore 38 dX9_is_36 (pm_st2_6 rfl) rfl ?_
    refine pr_iload 40 dX9_is_38 rfl rfl ?_
    refine pr_if_le 59 43 dX9_is_40 rfl rfl (fun c_40 => absurd (c_40) (by decide)) (fun c_40 => ?_)
    refine pr_ldc2 _ 46 dX9_is_43 kX9_48 rfl ?_
    refine pr_lload 48 dX9_is_46 rfl rfl ?_
    refine pr_lmul 49 dX9_is_48 rfl ?_
    refine pr_iload 51 dX9_is_49 rfl rfl ?_
    refine pr_i2l 52 dX9_is_51 rfl ?_
    refine pr_ladd 53 dX9_is_52 rfl ?_
    refine pr_ldc2 _ 56 dX9_is_53 kX9_50 rfl ?_
    refine pr_lsub 57 dX9_is_56 rfl ?_
    refine pr_lstore 59 dX9_is_57 (pm_st2_6 rfl) rfl ?_
    refine pr_iload 61 dX9_is_59 rfl rfl ?_
    refine pr_if_le 80 64 dX9_is_61 rfl rfl (fun c_61 => absurd (c_61) (by decide)) (fun c_61 => ?_)
    refine pr_ldc2 _ 67 dX9_is_64 kX9_48 rfl ?_
    refine pr_lload 69 dX9_is_67 rfl rfl ?_
    refine pr_lmul 70 dX9_is_69 rfl ?_
    refine pr_iload 72 dX9_is_70 rfl rfl ?_
    refine pr_i2l 73 dX9_is_72 rfl ?_
    refine pr_ladd 74 dX9_is_73 rfl ?_
    refine pr_ldc2 _ 77 dX9_is_74 kX9_50 rfl ?_
    refine pr_lsub 78 dX9_is_77 rfl ?_
    refine pr_lstore 80 dX9_is_78 (pm_st2_6 rfl) rfl ?_
    refine pr_aload_n 81 dX9_is_80 rfl rfl rfl ?_
    refine pr_getI 84 dX9_is_81 fX9_27 rfl ?_
    rw [h.1]
    refine pr_iconst (2) 85 dX9_is_84 (by decide) rfl ?_
    refine pr_icmp_ne 102 88 dX9_is_85 rfl rfl (fun c_85 => ?_) (fun c_85 => absurd (c_85) (hm))
    refine pr_iconst (0) 103 dX9_is_102 (by decide) rfl ?_
    refine pr_zreturn dX9_is_103 rfl (by first | exact Or.inl rfl | exact Or.inr rfl) ?_
    exact ⟨by rw [if_neg (by omega)], rfl⟩
set_option maxRecDepth 100000 in
theorem sp_is_load (h : mtk mem B T p) (hB : ∀ k, B k < 256) : Cd yX9_is cX9_is 8 (some .boolean) 0 0 [pR 10009909 0, pI 108, pI 111, pI 97, pI 100, pI 0] mem (some (pI (if tK B T p = 8 then 1 else 0))) mem := by
  refine Cl.of (own := RX9) rfl rfl (Nat.le_of_ble_eq_true rfl) rfl ?_; show PR _ _ _ _ _ _ [some _, some _, some _, some _, some _, some _, none, none] _ _ _
  by_cases hk : 4 ≤ tK B T p
  · obtain ⟨h1, h2⟩ := mtk_w h hk
    have hw := h.2.2.2.2 hk
    have hc := wcs_load h1
    rw [← h2] at hc
    have hl := wc_lt (q := tQ B T p) (n := rn B T (tQ B T p) - tQ B T p) hB
    have hm : msort (tK B T p) T = 2 := by rw [msort, if_neg (by omega), if_neg (by omega), if_neg (by omega), if_neg (by omega)]
    refine pr_ldc2 _ 3 dX9_is_0 kX9_48 rfl ?_
    refine pr_iload_n 4 dX9_is_3 rfl rfl rfl ?_
    refine pr_i2l 5 dX9_is_4 rfl ?_
    refine pr_ldc2 _ 8 dX9_is_5 kX9_50 rfl ?_
    refine pr_lsub 9 dX9_is_8 rfl ?_
    refine pr_lmul 10 dX9_is_9 rfl ?_
    refine pr_iload_n 11 dX9_is_10 rfl rfl rfl ?_
    refine pr_i2l 12 dX9_is_11 rfl ?_
    refine pr_ladd 13 dX9_is_12 rfl ?_
    refine pr_ldc2 _ 16 dX9_is_13 kX9_50 rfl ?_
    refine pr_lsub 17 dX9_is_16 rfl ?_
    refine pr_lstore 19 dX9_is_17 (pm_st2_6 rfl) rfl ?_
    refine pr_iload_n 20 dX9_is_19 rfl rfl rfl ?_
    refine pr_if_le 38 23 dX9_is_20 rfl rfl (fun c_20 => absurd (c_20) (by decide)) (fun c_20 => ?_)
    refine pr_ldc2 _ 26 dX9_is_23 kX9_48 rfl ?_
    refine pr_lload 28 dX9_is_26 rfl rfl ?_
    refine pr_lmul 29 dX9_is_28 rfl ?_
    refine pr_iload_n 30 dX9_is_29 rfl rfl rfl ?_
    refine pr_i2l 31 dX9_is_30 rfl ?_
    refine pr_ladd 32 dX9_is_31 rfl ?_
    refine pr_ldc2 _ 35 dX9_is_32 kX9_50 rfl ?_
    refine pr_lsub 36 dX9_is_35 rfl ?_
    refine pr_lstore 38 dX9_is_36 (pm_st2_6 rfl) rfl ?_
    refine pr_iload 40 dX9_is_38 rfl rfl ?_
    refine pr_if_le 59 43 dX9_is_40 rfl rfl (fun c_40 => absurd (c_40) (by decide)) (fun c_40 => ?_)
    refine pr_ldc2 _ 46 dX9_is_43 kX9_48 rfl ?_
    refine pr_lload 48 dX9_is_46 rfl rfl ?_
    refine pr_lmul 49 dX9_is_48 rfl ?_
    refine pr_iload 51 dX9_is_49 rfl rfl ?_
    refine pr_i2l 52 dX9_is_51 rfl ?_
    refine pr_ladd 53 dX9_is_52 rfl ?_
    refine pr_ldc2 _ 56 dX9_is_53 kX9_50 rfl ?_
    refine pr_lsub 57 dX9_is_56 rfl ?_
    refine pr_lstore 59 dX9_is_57 (pm_st2_6 rfl) rfl ?_
    refine pr_iload 61 dX9_is_59 rfl rfl ?_
    refine pr_if_le 80 64 dX9_is_61 rfl rfl (fun c_61 => ?_) (fun c_61 => absurd (by decide) (c_61))
    refine pr_aload_n 81 dX9_is_80 rfl rfl rfl ?_
    refine pr_getI 84 dX9_is_81 fX9_27 rfl ?_
    rw [h.1, hm]
    refine pr_iconst (2) 85 dX9_is_84 (by decide) rfl ?_
    refine pr_icmp_ne 102 88 dX9_is_85 rfl rfl (fun c_85 => absurd (rfl) (c_85)) (fun c_85 => ?_)
    refine pr_aload_n 89 dX9_is_88 rfl rfl rfl ?_
    refine pr_getJ 92 dX9_is_89 fX9_37 rfl ?_
    rw [hw]
    refine pr_lload 94 dX9_is_92 rfl rfl ?_
    refine pr_lcmp 95 dX9_is_94 rfl ?_
    refine pr_if_ne 102 98 dX9_is_95 rfl rfl (fun c_95 => ?_) (fun c_95 => ?_)
    · have c2 : ¬ wc B (tQ B T p) (rn B T (tQ B T p) - tQ B T p) = 247162 := fun z => c_95 (by rw [z]; decide)
      refine pr_iconst (0) 103 dX9_is_102 (by decide) rfl ?_
      refine pr_zreturn dX9_is_103 rfl (by first | exact Or.inl rfl | exact Or.inr rfl) ?_
      exact ⟨by rw [if_neg (fun z => c2 (hc.mpr z))], rfl⟩
    · have c2 : wc B (tQ B T p) (rn B T (tQ B T p) - tQ B T p) = 247162 := (lN_eqI hl (by omega)).mp (by
        have z := c_95
        rw [lg_cmp_eq] at z
        exact z.trans (by decide))
      refine pr_iconst (1) 99 dX9_is_98 (by decide) rfl ?_
      refine pr_goto 103 dX9_is_99 rfl ?_
      refine pr_zreturn dX9_is_103 rfl (by first | exact Or.inl rfl | exact Or.inr rfl) ?_
      exact ⟨by rw [if_pos (hc.mp c2)], rfl⟩
  · have hm : ¬ nI (msort (tK B T p) T) = 2 := by
      unfold msort
      repeat' split
      all_goals first | decide | omega
    refine pr_ldc2 _ 3 dX9_is_0 kX9_48 rfl ?_
    refine pr_iload_n 4 dX9_is_3 rfl rfl rfl ?_
    refine pr_i2l 5 dX9_is_4 rfl ?_
    refine pr_ldc2 _ 8 dX9_is_5 kX9_50 rfl ?_
    refine pr_lsub 9 dX9_is_8 rfl ?_
    refine pr_lmul 10 dX9_is_9 rfl ?_
    refine pr_iload_n 11 dX9_is_10 rfl rfl rfl ?_
    refine pr_i2l 12 dX9_is_11 rfl ?_
    refine pr_ladd 13 dX9_is_12 rfl ?_
    refine pr_ldc2 _ 16 dX9_is_13 kX9_50 rfl ?_
    refine pr_lsub 17 dX9_is_16 rfl ?_
    refine pr_lstore 19 dX9_is_17 (pm_st2_6 rfl) rfl ?_
    refine pr_iload_n 20 dX9_is_19 rfl rfl rfl ?_
    refine pr_if_le 38 23 dX9_is_20 rfl rfl (fun c_20 => absurd (c_20) (by decide)) (fun c_20 => ?_)
    refine pr_ldc2 _ 26 dX9_is_23 kX9_48 rfl ?_
    refine pr_lload 28 dX9_is_26 rfl rfl ?_
    refine pr_lmul 29 dX9_is_28 rfl ?_
    refine pr_iload_n 30 dX9_is_29 rfl rfl rfl ?_
    refine pr_i2l 31 dX9_is_30 rfl ?_
    refine pr_ladd 32 dX9_is_31 rfl ?_
    refine pr_ldc2 _ 35 dX9_is_32 kX9_50 rfl ?_
    refine pr_lsub 36 dX9_is_35 rfl ?_
    refine pr_lstore 38 dX9_is_36 (pm_st2_6 rfl) rfl ?_
    refine pr_iload 40 dX9_is_38 rfl rfl ?_
    refine pr_if_le 59 43 dX9_is_40 rfl rfl (fun c_40 => absurd (c_40) (by decide)) (fun c_40 => ?_)
    refine pr_ldc2 _ 46 dX9_is_43 kX9_48 rfl ?_
    refine pr_lload 48 dX9_is_46 rfl rfl ?_
    refine pr_lmul 49 dX9_is_48 rfl ?_
    refine pr_iload 51 dX9_is_49 rfl rfl ?_
    refine pr_i2l 52 dX9_is_51 rfl ?_
    refine pr_ladd 53 dX9_is_52 rfl ?_
    refine pr_ldc2 _ 56 dX9_is_53 kX9_50 rfl ?_
    refine pr_lsub 57 dX9_is_56 rfl ?_
    refine pr_lstore 59 dX9_is_57 (pm_st2_6 rfl) rfl ?_
    refine pr_iload 61 dX9_is_59 rfl rfl ?_
    refine pr_if_le 80 64 dX9_is_61 rfl rfl (fun c_61 => ?_) (fun c_61 => absurd (by decide) (c_61))
    refine pr_aload_n 81 dX9_is_80 rfl rfl rfl ?_
    refine pr_getI 84 dX9_is_81 fX9_27 rfl ?_
    rw [h.1]
    refine pr_iconst (2) 85 dX9_is_84 (by decide) rfl ?_
    refine pr_icmp_ne 102 88 dX9_is_85 rfl rfl (fun c_85 => ?_) (fun c_85 => absurd (c_85) (hm))
    refine pr_iconst (0) 103 dX9_is_102 (by decide) rfl ?_
    refine pr_zreturn dX9_is_103 rfl (by first | exact Or.inl rfl | exact Or.inr rfl) ?_
    exact ⟨by rw [if_neg (by omega)], rfl⟩
set_option maxRecDepth 100000 in
theorem sp_is_trip (h : mtk mem B T p) (hB : ∀ k, B k < 256) : Cd yX9_is cX9_is 8 (some .boolean) 0 0 [pR 10009909 0, pI 116, pI 114, pI 105, pI 112, pI 0] mem (some (pI (if tK B T p = 9 then 1 else 0))) mem := by
  refine Cl.of (own := RX9) rfl rfl (Nat.le_of_ble_eq_true rfl) rfl ?_; show PR _ _ _ _ _ _ [some _, some _, some _, some _, some _, some _, none, none] _ _ _
  by_cases hk : 4 ≤ tK B T p
  · obtain ⟨h1, h2⟩ := mtk_w h hk
    have hw := h.2.2.2.2 hk
    have hc := wcs_trip h1
    rw [← h2] at hc
    have hl := wc_lt (q := tQ B T p) (n := rn B T (tQ B T p) - tQ B T p) hB
    have hm : msort (tK B T p) T = 2 := by rw [msort, if_neg (by omega), if_neg (by omega), if_neg (by omega), if_neg (by omega)]
    refine pr_ldc2 _ 3 dX9_is_0 kX9_48 rfl ?_
    refine pr_iload_n 4 dX9_is_3 rfl rfl rfl ?_
    refine pr_i2l 5 dX9_is_4 rfl ?_
    refine pr_ldc2 _ 8 dX9_is_5 kX9_50 rfl ?_
    refine pr_lsub 9 dX9_is_8 rfl ?_
    refine pr_lmul 10 dX9_is_9 rfl ?_
    refine pr_iload_n 11 dX9_is_10 rfl rfl rfl ?_
    refine pr_i2l 12 dX9_is_11 rfl ?_
    refine pr_ladd 13 dX9_is_12 rfl ?_
    refine pr_ldc2 _ 16 dX9_is_13 kX9_50 rfl ?_
    refine pr_lsub 17 dX9_is_16 rfl ?_
    refine pr_lstore 19 dX9_is_17 (pm_st2_6 rfl) rfl ?_
    refine pr_iload_n 20 dX9_is_19 rfl rfl rfl ?_
    refine pr_if_le 38 23 dX9_is_20 rfl rfl (fun c_20 => absurd (c_20) (by decide)) (fun c_20 => ?_)
    refine pr_ldc2 _ 26 dX9_is_23 kX9_48 rfl ?_
    refine pr_lload 28 dX9_is_26 rfl rfl ?_
    refine pr_lmul 29 dX9_is_28 rfl ?_
    refine pr_iload_n 30 dX9_is_29 rfl rfl rfl ?_
    refine pr_i2l 31 dX9_is_30 rfl ?_
    refine pr_ladd 32 dX9_is_31 rfl ?_
    refine pr_ldc2 _ 35 dX9_is_32 kX9_50 rfl ?_
    refine pr_lsub 36 dX9_is_35 rfl ?_
    refine pr_lstore 38 dX9_is_36 (pm_st2_6 rfl) rfl ?_
    refine pr_iload 40 dX9_is_38 rfl rfl ?_
    refine pr_if_le 59 43 dX9_is_40 rfl rfl (fun c_40 => absurd (c_40) (by decide)) (fun c_40 => ?_)
    refine pr_ldc2 _ 46 dX9_is_43 kX9_48 rfl ?_
    refine pr_lload 48 dX9_is_46 rfl rfl ?_
    refine pr_lmul 49 dX9_is_48 rfl ?_
    refine pr_iload 51 dX9_is_49 rfl rfl ?_
    refine pr_i2l 52 dX9_is_51 rfl ?_
    refine pr_ladd 53 dX9_is_52 rfl ?_
    refine pr_ldc2 _ 56 dX9_is_53 kX9_50 rfl ?_
    refine pr_lsub 57 dX9_is_56 rfl ?_
    refine pr_lstore 59 dX9_is_57 (pm_st2_6 rfl) rfl ?_
    refine pr_iload 61 dX9_is_59 rfl rfl ?_
    refine pr_if_le 80 64 dX9_is_61 rfl rfl (fun c_61 => ?_) (fun c_61 => absurd (by decide) (c_61))
    refine pr_aload_n 81 dX9_is_80 rfl rfl rfl ?_
    refine pr_getI 84 dX9_is_81 fX9_27 rfl ?_
    rw [h.1, hm]
    refine pr_iconst (2) 85 dX9_is_84 (by decide) rfl ?_
    refine pr_icmp_ne 102 88 dX9_is_85 rfl rfl (fun c_85 => absurd (rfl) (c_85)) (fun c_85 => ?_)
    refine pr_aload_n 89 dX9_is_88 rfl rfl rfl ?_
    refine pr_getJ 92 dX9_is_89 fX9_37 rfl ?_
    rw [hw]
    refine pr_lload 94 dX9_is_92 rfl rfl ?_
    refine pr_lcmp 95 dX9_is_94 rfl ?_
    refine pr_if_ne 102 98 dX9_is_95 rfl rfl (fun c_95 => ?_) (fun c_95 => ?_)
    · have c2 : ¬ wc B (tQ B T p) (rn B T (tQ B T p) - tQ B T p) = 407041 := fun z => c_95 (by rw [z]; decide)
      refine pr_iconst (0) 103 dX9_is_102 (by decide) rfl ?_
      refine pr_zreturn dX9_is_103 rfl (by first | exact Or.inl rfl | exact Or.inr rfl) ?_
      exact ⟨by rw [if_neg (fun z => c2 (hc.mpr z))], rfl⟩
    · have c2 : wc B (tQ B T p) (rn B T (tQ B T p) - tQ B T p) = 407041 := (lN_eqI hl (by omega)).mp (by
        have z := c_95
        rw [lg_cmp_eq] at z
        exact z.trans (by decide))
      refine pr_iconst (1) 99 dX9_is_98 (by decide) rfl ?_
      refine pr_goto 103 dX9_is_99 rfl ?_
      refine pr_zreturn dX9_is_103 rfl (by first | exact Or.inl rfl | exact Or.inr rfl) ?_
      exact ⟨by rw [if_pos (hc.mp c2)], rfl⟩
  · have hm : ¬ nI (msort (tK B T p) T) = 2 := by
      unfold msort
      repeat' split
      all_goals first | decide | omega
    refine pr_ldc2 _ 3 dX9_is_0 kX9_48 rfl ?_
    refine pr_iload_n 4 dX9_is_3 rfl rfl rfl ?_
    refine pr_i2l 5 dX9_is_4 rfl ?_
    refine pr_ldc2 _ 8 dX9_is_5 kX9_50 rfl ?_
    refine pr_lsub 9 dX9_is_8 rfl ?_
    refine pr_lmul 10 dX9_is_9 rfl ?_
    refine pr_iload_n 11 dX9_is_10 rfl rfl rfl ?_
    refine pr_i2l 12 dX9_is_11 rfl ?_
    refine pr_ladd 13 dX9_is_12 rfl ?_
    refine pr_ldc2 _ 16 dX9_is_13 kX9_50 rfl ?_
    refine pr_lsub 17 dX9_is_16 rfl ?_
    refine pr_lstore 19 dX9_is_17 (pm_st2_6 rfl) rfl ?_
    refine pr_iload_n 20 dX9_is_19 rfl rfl rfl ?_
    refine pr_if_le 38 23 dX9_is_20 rfl rfl (fun c_20 => absurd (c_20) (by decide)) (fun c_20 => ?_)
    refine pr_ldc2 _ 26 dX9_is_23 kX9_48 rfl ?_
    refine pr_lload 28 dX9_is_26 rfl rfl ?_
    refine pr_lmul 29 dX9_is_28 rfl ?_
    refine pr_iload_n 30 dX9_is_29 rfl rfl rfl ?_
    refine pr_i2l 31 dX9_is_30 rfl ?_
    refine pr_ladd 32 dX9_is_31 rfl ?_
    refine pr_ldc2 _ 35 dX9_is_32 kX9_50 rfl ?_
    refine pr_lsub 36 dX9_is_35 rfl ?_
    refine pr_lstore 38 dX9_is_36 (pm_st2_6 rfl) rfl ?_
    refine pr_iload 40 dX9_is_38 rfl rfl ?_
    refine pr_if_le 59 43 dX9_is_40 rfl rfl (fun c_40 => absurd (c_40) (by decide)) (fun c_40 => ?_)
    refine pr_ldc2 _ 46 dX9_is_43 kX9_48 rfl ?_
    refine pr_lload 48 dX9_is_46 rfl rfl ?_
    refine pr_lmul 49 dX9_is_48 rfl ?_
    refine pr_iload 51 dX9_is_49 rfl rfl ?_
    refine pr_i2l 52 dX9_is_51 rfl ?_
    refine pr_ladd 53 dX9_is_52 rfl ?_
    refine pr_ldc2 _ 56 dX9_is_53 kX9_50 rfl ?_
    refine pr_lsub 57 dX9_is_56 rfl ?_
    refine pr_lstore 59 dX9_is_57 (pm_st2_6 rfl) rfl ?_
    refine pr_iload 61 dX9_is_59 rfl rfl ?_
    refine pr_if_le 80 64 dX9_is_61 rfl rfl (fun c_61 => ?_) (fun c_61 => absurd (by decide) (c_61))
    refine pr_aload_n 81 dX9_is_80 rfl rfl rfl ?_
    refine pr_getI 84 dX9_is_81 fX9_27 rfl ?_
    rw [h.1]
    refine pr_iconst (2) 85 dX9_is_84 (by decide) rfl ?_
    refine pr_icmp_ne 102 88 dX9_is_85 rfl rfl (fun c_85 => ?_) (fun c_85 => absurd (c_85) (hm))
    refine pr_iconst (0) 103 dX9_is_102 (by decide) rfl ?_
    refine pr_zreturn dX9_is_103 rfl (by first | exact Or.inl rfl | exact Or.inr rfl) ?_
    exact ⟨by rw [if_neg (by omega)], rfl⟩
def badF (m0 m : pm_M) : Prop := pm_fr sMo m0 m ∧ ∀ k, k ≠ 8 → k ≠ 9 → m.1 10009909 0 k = m0.1 10009909 0 k
set_option maxRecDepth 100000 in
theorem sp_X9_bad (h : mtk mem0 B T p) (w : Nat) : Cl yX9_bad cX9_bad 2 (some .boolean) 0 0 [pR 10009909 0, pI (nI w)] mem0 (fun r mem => r = some (pI 0) ∧ badF mem0 mem ∧ mem.2.1 = mem0.2.1 ∧ mem.1 10009909 0 8 = nI (if msort (tK B T p) T = 1 then 1 else w) ∧ mem.1 10009909 0 9 = nI (tS B T p)) := by
  have hm : ∀ x y : Int32, badF mem0 (pm_uI (pm_uI mem0 10009909 0 8 x) 10009909 0 9 y) := fun x y => ⟨(pm_fr.rf.uI ⟨rfl, rfl⟩).uI ⟨rfl, rfl⟩, fun k a b => by rw [pm_gIn (fun z => b z.2.2), pm_gIn (fun z => a z.2.2)]⟩
  refine Cl.of (own := RX9) rfl rfl (Nat.le_of_ble_eq_true rfl) rfl ?_; show PR _ _ _ _ _ _ [some _, some _] _ _ _
  by_cases c : msort (tK B T p) T = 1
  · rw [if_pos c]
    refine pr_aload_n 1 dX9_bad_0 rfl rfl rfl ?_
    refine pr_aload_n 2 dX9_bad_1 rfl rfl rfl ?_
    refine pr_getI 5 dX9_bad_2 fX9_27 rfl ?_
    rw [h.1, c]
    refine pr_iconst (1) 6 dX9_bad_5 (by decide) rfl ?_
    refine pr_icmp_ne 13 9 dX9_bad_6 rfl rfl (fun c_6 => absurd (rfl) (c_6)) (fun c_6 => ?_)
    refine pr_iconst (1) 10 dX9_bad_9 (by decide) rfl ?_
    refine pr_goto 14 dX9_bad_10 rfl ?_
    refine pr_putI 17 dX9_bad_14 fX9_52 rfl ?_
    refine pr_aload_n 18 dX9_bad_17 rfl rfl rfl ?_
    refine pr_aload_n 19 dX9_bad_18 rfl rfl rfl ?_
    refine pr_getI 22 dX9_bad_19 fX9_24 rfl ?_
    rw [pm_gIn (by simp), h.2.1]
    refine pr_putI 25 dX9_bad_22 fX9_55 rfl ?_
    refine pr_iconst (0) 26 dX9_bad_25 (by decide) rfl ?_
    refine pr_zreturn dX9_bad_26 rfl (by first | exact Or.inl rfl | exact Or.inr rfl) ?_
    exact ⟨rfl, hm _ _, rfl, by rw [pm_gIn (by simp), pm_gIe]; rfl, pm_gIe⟩
  · rw [if_neg c]
    have hms : msort (tK B T p) T < 10 := by
      unfold msort
      repeat' split
      all_goals omega
    refine pr_aload_n 1 dX9_bad_0 rfl rfl rfl ?_
    refine pr_aload_n 2 dX9_bad_1 rfl rfl rfl ?_
    refine pr_getI 5 dX9_bad_2 fX9_27 rfl ?_
    rw [h.1]
    refine pr_iconst (1) 6 dX9_bad_5 (by decide) rfl ?_
    refine pr_icmp_ne 13 9 dX9_bad_6 rfl rfl (fun c_6 => ?_) (fun c_6 => absurd (c_6) (fun z => c ((nI_eq (b := 1) (by omega) (by omega)).mp z)))
    refine pr_iload_n 14 dX9_bad_13 rfl rfl rfl ?_
    refine pr_putI 17 dX9_bad_14 fX9_52 rfl ?_
    refine pr_aload_n 18 dX9_bad_17 rfl rfl rfl ?_
    refine pr_aload_n 19 dX9_bad_18 rfl rfl rfl ?_
    refine pr_getI 22 dX9_bad_19 fX9_24 rfl ?_
    rw [pm_gIn (by simp), h.2.1]
    refine pr_putI 25 dX9_bad_22 fX9_55 rfl ?_
    refine pr_iconst (0) 26 dX9_bad_25 (by decide) rfl ?_
    refine pr_zreturn dX9_bad_26 rfl (by first | exact Or.inl rfl | exact Or.inr rfl) ?_
    exact ⟨rfl, hm _ _, rfl, by rw [pm_gIn (by simp), pm_gIe], pm_gIe⟩
end WRD
