/-! the reference: gives, laysWeights, laysTrip -/
section MAC
variable {mem0 : pm_M} {K w lk : Nat → Nat} {M : Nat} {o : Option Nat}
theorem ix_g (r l : Nat) : (17 : Int32) * nI r + nI l = nI (17 * r + l) := by
  rw [← nI_add, ← nI_mulN]; rfl
set_option maxRecDepth 100000 in
theorem sp_X9_gives {mem : pm_M} (r l v : Nat) (hr : r < 17) (hl : l < 17) {g : Nat} (hg : mem.1 20017380 0 l = nI g) : Cd yX9_gives cX9_gives 4 none 0 0 [pR 10009909 0, pI (nI r), pI (nI l), pI (nI v)] mem none (pm_uI (pm_uI mem 20289381 0 (17 * r + l) (nI v)) 20017380 0 l (nI (g + v))) := by
  refine Cl.of (own := RX9) rfl rfl (Nat.le_of_ble_eq_true rfl) rfl ?_; show PR _ _ _ _ _ _ [some _, some _, some _, some _] _ _ _
  refine pr_aload_n 1 dX9_gives_0 rfl rfl rfl ?_
  refine pr_getR0 4 dX9_gives_1 fX9_91 rfl ?_
  refine pr_bipush (17) 6 dX9_gives_4 (by decide) rfl ?_
  refine pr_iload_n 7 dX9_gives_6 rfl rfl rfl ?_
  refine pr_imul 8 dX9_gives_7 rfl ?_
  refine pr_iload_n 9 dX9_gives_8 rfl rfl rfl ?_
  refine pr_iadd 10 dX9_gives_9 rfl ?_
  refine pr_iload_n 11 dX9_gives_10 rfl rfl rfl ?_
  refine pr_iastore (17 * r + l) 12 dX9_gives_11 rfl rfl (ix_g r l) (by omega) rfl ?_
  refine pr_aload_n 13 dX9_gives_12 rfl rfl rfl ?_
  refine pr_getR0 16 dX9_gives_13 fX9_88 rfl ?_
  refine pr_iload_n 17 dX9_gives_16 rfl rfl rfl ?_
  refine pr_dup2 rfl rfl 18 dX9_gives_17 rfl ?_
  refine pr_iaload l 19 dX9_gives_18 rfl rfl rfl (by omega) rfl ?_
  rw [pm_gIn (by simp), hg]
  refine pr_iload_n 20 dX9_gives_19 rfl rfl rfl ?_
  refine pr_iadd 21 dX9_gives_20 rfl ?_
  rw [nI_add]
  refine pr_iastore l 22 dX9_gives_21 rfl rfl rfl (by omega) rfl ?_
  refine pr_return dX9_gives_22 rfl ?_
  exact ⟨rfl, rfl⟩
def sMW : Nat → Nat → Prop := fun t i => t ∈ [10009909, 20017375, 20017376] ∧ i = 0
/-- the reference's fields, but many and out -/
def mdW (m0 m : pm_M) : Prop := (∀ k, k ≠ 26 → k ≠ 27 → m.1 10009909 0 k = m0.1 10009909 0 k) ∧ m.2.1 10009909 0 = m0.2.1 10009909 0
set_option maxRecDepth 100000 in
theorem sp_X9_laysWeights (h : rowR 20869371 mem0 K) (hW : WF K) : Cl yX9_laysWeights cX9_laysWeights 2 none 1 20 [pR 10009909 0] mem0 (fun r mem => r = none ∧ pm_fr sMW mem0 mem ∧ mdW mem0 mem ∧ mwR mem (fun l => K (20 + l)) (fun l => l) (K 39) none ∧ ∀ l, l < 17 → mem.1 20017376 0 l = nI l) := by
  have h16 := hW.2.2.2.1
  have lp : ∀ j k mem, k + j = 17 → pm_fr sMW mem0 mem → mdW mem0 mem → mem.1 10009909 0 26 = nI (K 39) → mem.1 10009909 0 27 = -1 → (∀ l, l < k → (l < K 39 → mem.1 20017375 0 l = nI (K (20 + l))) ∧ mem.1 20017376 0 l = nI l) → PR cX9_laysWeights RX9 2 1 20 15 [some (pR 10009909 0), some (pI (nI k))] [] mem (pm_RX cX9_laysWeights none (fun r mem => r = none ∧ pm_fr sMW mem0 mem ∧ mdW mem0 mem ∧ mwR mem (fun l => K (20 + l)) (fun l => l) (K 39) none ∧ ∀ l, l < 17 → mem.1 20017376 0 l = nI l)) := by
    intro j
    induction j with
    | zero =>
      intro k mem hj i1 i2 i3 i4 i5
      have e : k = 17 := by omega
      subst e
      refine pr_iload_n 16 dX9_laysWeights_15 rfl rfl rfl ?_
      refine pr_bipush (17) 18 dX9_laysWeights_16 (by decide) rfl ?_
      refine pr_icmp_ge 61 21 dX9_laysWeights_18 rfl rfl (fun c_18 => ?_) (fun c_18 => absurd (by decide) (c_18))
      refine pr_return dX9_laysWeights_61 rfl ?_
      exact ⟨rfl, i1, i2, ⟨i3, i4, fun l hl => ⟨(i5 l (by omega)).1 hl, (i5 l (by omega)).2⟩⟩, fun l hl => (i5 l hl).2⟩
    | succ j ih =>
      intro k mem hj i1 i2 i3 i4 i5
      have h1 := h.fr i1 (by simp [sMW])
      have go : ∀ x : Int32, (k < K 39 → x = nI (K (20 + k))) → PR cX9_laysWeights RX9 2 1 20 47 [some (pR 10009909 0), some (pI (nI k))] [pI x, pI (nI k), pR 20017375 0] mem (pm_RX cX9_laysWeights none (fun r mem => r = none ∧ pm_fr sMW mem0 mem ∧ mdW mem0 mem ∧ mwR mem (fun l => K (20 + l)) (fun l => l) (K 39) none ∧ ∀ l, l < 17 → mem.1 20017376 0 l = nI l)) := by
        intro x hx
        refine pr_iastore k 48 dX9_laysWeights_47 rfl rfl rfl (by omega) rfl ?_
        refine pr_aload_n 49 dX9_laysWeights_48 rfl rfl rfl ?_
        refine pr_getR0 52 dX9_laysWeights_49 fX9_76 rfl ?_
        refine pr_iload_n 53 dX9_laysWeights_52 rfl rfl rfl ?_
        refine pr_iload_n 54 dX9_laysWeights_53 rfl rfl rfl ?_
        refine pr_iastore k 55 dX9_laysWeights_54 rfl rfl rfl (by omega) rfl ?_
        refine pr_iinc 58 dX9_laysWeights_55 rfl (by first | exact pm_inc _ | rfl) (pm_st_1 rfl rfl) rfl ?_
        refine pr_goto 15 dX9_laysWeights_58 rfl ?_
        refine ih (k + 1) _ (by omega) ((i1.uI ⟨by simp, rfl⟩).uI ⟨by simp, rfl⟩) ⟨fun z z1 z2 => by rw [pm_gIn (by simp), pm_gIn (by simp)]; exact i2.1 z z1 z2, i2.2⟩ (by rw [pm_gIn (by simp), pm_gIn (by simp)]; exact i3) (by rw [pm_gIn (by simp), pm_gIn (by simp)]; exact i4) (fun l hl => ?_)
        by_cases z : l = k
        · subst z
          rw [pm_gIn (by simp), pm_gIe, pm_gIe]
          exact ⟨hx, rfl⟩
        · rw [pm_gIn (by simp), pm_gIn (by omega), pm_gIn (by omega), pm_gIn (by simp)]
          exact i5 l (by omega)
      refine pr_iload_n 16 dX9_laysWeights_15 rfl rfl rfl ?_
      refine pr_bipush (17) 18 dX9_laysWeights_16 (by decide) rfl ?_
      refine pr_icmp_ge 61 21 dX9_laysWeights_18 rfl rfl (fun c_18 => absurd (c_18) (nI_ge (b := 17) (by omega) (by omega))) (fun c_18 => ?_)
      refine pr_aload_n 22 dX9_laysWeights_21 rfl rfl rfl ?_
      refine pr_getR0 25 dX9_laysWeights_22 fX9_73 rfl ?_
      refine pr_iload_n 26 dX9_laysWeights_25 rfl rfl rfl ?_
      refine pr_iload_n 27 dX9_laysWeights_26 rfl rfl rfl ?_
      refine pr_aload_n 28 dX9_laysWeights_27 rfl rfl rfl ?_
      refine pr_getI 31 dX9_laysWeights_28 fX9_176 rfl ?_
      rw [i3]
      refine pr_icmp_ge 46 34 dX9_laysWeights_31 rfl rfl (fun c_31 => ?_) (fun c_31 => ?_)
      · rw [nI_leI (by omega) (by omega)] at c_31
        refine pr_iconst (0) 47 dX9_laysWeights_46 (by decide) rfl ?_
        exact go _ (fun z => by omega)
      · rw [nI_leI (by omega) (by omega)] at c_31
        refine pr_aload_n 35 dX9_laysWeights_34 rfl rfl rfl ?_
        refine pr_getR0 38 dX9_laysWeights_35 fX9_64 rfl ?_
        refine pr_bipush (20) 40 dX9_laysWeights_38 (by decide) rfl ?_
        refine pr_iload_n 41 dX9_laysWeights_40 rfl rfl rfl ?_
        refine pr_iadd 42 dX9_laysWeights_41 rfl ?_
        refine pr_iaload (20 + k) 43 dX9_laysWeights_42 rfl rfl (nI_add 20 k) (by omega) rfl ?_
        rw [h1.1 _ (by omega) (by omega)]
        refine pr_goto 47 dX9_laysWeights_43 rfl ?_
        exact go _ (fun _ => rfl)
  refine Cl.of (own := RX9) rfl rfl (Nat.le_of_ble_eq_true rfl) rfl ?_; show PR _ _ _ _ _ _ [some _, none] _ _ _
  refine pr_aload_n 1 dX9_laysWeights_0 rfl rfl rfl ?_
  refine pr_aload_n 2 dX9_laysWeights_1 rfl rfl rfl ?_
  refine pr_invD0 5 dX9_laysWeights_2 vX9_170 mX9_loads (sp_X9_loads h) ⟨Nat.le_of_ble_eq_true rfl, Nat.le_of_ble_eq_true rfl⟩ (Nat.le_of_ble_eq_true rfl) rfl ?_
  refine pr_putI 8 dX9_laysWeights_5 fX9_176 rfl ?_
  refine pr_aload_n 9 dX9_laysWeights_8 rfl rfl rfl ?_
  refine pr_iconst (-1) 10 dX9_laysWeights_9 (by decide) rfl ?_
  refine pr_putI 13 dX9_laysWeights_10 fX9_179 rfl ?_
  refine pr_iconst (0) 14 dX9_laysWeights_13 (by decide) rfl ?_
  refine pr_istore_n 15 dX9_laysWeights_14 rfl (pm_st_1 rfl rfl) rfl ?_
  refine lp 17 0 _ (by omega) ((pm_fr.rf.uI ⟨by simp, rfl⟩).uI ⟨by simp, rfl⟩) ⟨fun z z1 z2 => by rw [pm_gIn (fun y => z2 y.2.2), pm_gIn (fun y => z1 y.2.2)], rfl⟩ (by rw [pm_gIn (by simp), pm_gIe]) (by rw [pm_gIe]) (fun l hl => absurd hl (Nat.not_lt_zero _))
def sMT : Nat → Nat → Prop := fun t i => t ∈ [20289381, 20017380, 40017384, 20017383, 20017382, 40017385] ∧ i = 0
def pl (K lk : Nat → Nat) (o : Option Nat) (t l : Nat) : Bool := decide (¬ o = some l) && (K (106 + 6 * t)).testBit (lk l)
set_option maxRecDepth 100000 in
theorem sp_X9_laysTrip (h : rowR 20869371 mem0 K) (hW : WF K) (hw : WL K w lk M) (hm : mwR mem0 w lk M o) (hz : outZ w M o) {t : Nat} (ht : t < K 40) (hni : ¬ idl K w lk M t = true) (hgv : mem0.1 20016378 0 t = nI (gvn K w lk M t)) {g : Nat → Nat} (hg : ∀ l, l < M → mem0.1 20017380 0 l = nI (g l)) (h0 : ∀ l, l < M → mem0.1 20289381 0 (17 * t + l) = 0) :
    Cl yX9_laysTrip cX9_laysTrip 4 none 2 47 [pR 10009909 0, pI (nI t)] mem0 (fun r mem => r = none ∧ pm_fr sMT mem0 mem ∧ (∀ l, l < M → mem.1 20289381 0 (17 * t + l) = nI (oft K w lk M t l)) ∧ (∀ i, (∀ l, l < M → i ≠ 17 * t + l) → mem.1 20289381 0 i = mem0.1 20289381 0 i) ∧ ∀ l, l < M → mem.1 20017380 0 l = nI (g l + oft K w lk M t l)) := by
  have h16 := hW.2.2.2.2.1
  have hn16 := hW.2.2.2.1
  have hM := hw.1
  have hrk := rk_le (pl K lk o t) M
  have hgb := gvn_le (w := w) (lk := lk) hW M t
  have hS : 0 < sm (ptl K w lk t) M := by
    have : ¬ pts K w lk M t = 0 := fun z => hni (by simp [idl, z])
    unfold pts at this
    omega
  have hzero : ∀ l, l < M → ¬ pl K lk o t l = true → ptl K w lk t l = 0 := by
    intro l hl hp
    unfold ptl
    by_cases hb : (K (106 + 6 * t)).testBit (lk l) = true
    · rw [if_pos hb]
      have : o = some l := Decidable.byContradiction (fun z => hp (by simp [pl, z, hb]))
      rw [(hz l this).2, Nat.zero_mul]
    · rw [if_neg hb]
  obtain ⟨ps1, ps2⟩ := pa_sel (n := gvn K w lk M t) (N := M) (c := rk (pl K lk o t) M) (m := ptl K w lk t) (e := en (pl K lk o t) M) (fun i j hi hj => en_inc hi hj) (fun j hj => (en_ok hj).1) (fun l hl hn => hzero l hl (fun hp => hn (rk (pl K lk o t) l) (rk_lt hl hp) (en_rk hl hp))) hS
  have oftp : ∀ l, l < M → oft K w lk M t l = if pl K lk o t l = true then pa (gvn K w lk M t) (rk (pl K lk o t) M) (fun j => ptl K w lk t (en (pl K lk o t) M j)) (rk (pl K lk o t) l) else 0 := by
    intro l hl
    unfold oft
    rw [if_neg hni]
    by_cases hp : pl K lk o t l = true
    · rw [if_pos hp, ps1 _ (rk_lt hl hp), en_rk hl hp]
    · rw [if_neg hp]
      exact ps2 l hl (fun j hj e => hp (by rw [← e]; exact (en_ok hj).2.1))
  have lp2 : ∀ j n mem, n + j = rk (pl K lk o t) M → pm_fr sMT mem0 mem → (∀ i, i < rk (pl K lk o t) M → mem.1 20017383 0 i = nI (en (pl K lk o t) M i) ∧ mem.1 20017382 0 i = nI (pa (gvn K w lk M t) (rk (pl K lk o t) M) (fun j => ptl K w lk t (en (pl K lk o t) M j)) i)) → (∀ l, l < M → mem.1 20289381 0 (17 * t + l) = nI (if pl K lk o t l = true ∧ rk (pl K lk o t) l < n then oft K w lk M t l else 0) ∧ mem.1 20017380 0 l = nI (g l + if pl K lk o t l = true ∧ rk (pl K lk o t) l < n then oft K w lk M t l else 0)) → (∀ i, (∀ l, l < M → i ≠ 17 * t + l) → mem.1 20289381 0 i = mem0.1 20289381 0 i) → PR cX9_laysTrip RX9 4 2 47 82 [some (pR 10009909 0), some (pI (nI t)), some (pI (nI (rk (pl K lk o t) M))), some (pI (nI n))] [] mem (pm_RX cX9_laysTrip none (fun r mem => r = none ∧ pm_fr sMT mem0 mem ∧ (∀ l, l < M → mem.1 20289381 0 (17 * t + l) = nI (oft K w lk M t l)) ∧ (∀ i, (∀ l, l < M → i ≠ 17 * t + l) → mem.1 20289381 0 i = mem0.1 20289381 0 i) ∧ ∀ l, l < M → mem.1 20017380 0 l = nI (g l + oft K w lk M t l))) := by
    intro j
    induction j with
    | zero =>
      intro n mem hj i1 i2 i3 i4
      have e : n = rk (pl K lk o t) M := by omega
      subst e
      have eq : ∀ l, l < M → (if pl K lk o t l = true ∧ rk (pl K lk o t) l < rk (pl K lk o t) M then oft K w lk M t l else 0) = oft K w lk M t l := by
        intro l hl
        by_cases hp : pl K lk o t l = true
        · rw [if_pos ⟨hp, rk_lt hl hp⟩]
        · rw [if_neg (fun z => hp z.1), oftp l hl, if_neg hp]
      refine pr_iload_n 83 dX9_laysTrip_82 rfl rfl rfl ?_
      refine pr_iload_n 84 dX9_laysTrip_83 rfl rfl rfl ?_
      refine pr_icmp_ge 110 87 dX9_laysTrip_84 rfl rfl (fun c_84 => ?_) (fun c_84 => absurd (Int32.le_refl _) (c_84))
      refine pr_return dX9_laysTrip_110 rfl ?_
      exact ⟨rfl, i1, fun l hl => by rw [(i3 l hl).1, eq l hl], i4, fun l hl => by rw [(i3 l hl).2, eq l hl]⟩
    | succ j ih =>
      intro n mem hj i1 i2 i3 i4
      obtain ⟨e1, e2, e3⟩ := en_ok (p := pl K lk o t) (N := M) (j := n) (by omega)
      have hsh := (i3 _ e1).2
      rw [if_neg (fun z => by have := z.2; omega), Nat.add_zero] at hsh
      have hof : pa (gvn K w lk M t) (rk (pl K lk o t) M) (fun j => ptl K w lk t (en (pl K lk o t) M j)) n = oft K w lk M t (en (pl K lk o t) M n) := by
        rw [oftp _ e1, if_pos e2, e3]
      refine pr_iload_n 83 dX9_laysTrip_82 rfl rfl rfl ?_
      refine pr_iload_n 84 dX9_laysTrip_83 rfl rfl rfl ?_
      refine pr_icmp_ge 110 87 dX9_laysTrip_84 rfl rfl (fun c_84 => absurd (c_84) (nI_ge (by omega) (by omega))) (fun c_84 => ?_)
      refine pr_aload_n 88 dX9_laysTrip_87 rfl rfl rfl ?_
      refine pr_iload_n 89 dX9_laysTrip_88 rfl rfl rfl ?_
      refine pr_aload_n 90 dX9_laysTrip_89 rfl rfl rfl ?_
      refine pr_getR0 93 dX9_laysTrip_90 fX9_97 rfl ?_
      refine pr_iload_n 94 dX9_laysTrip_93 rfl rfl rfl ?_
      refine pr_iaload n 95 dX9_laysTrip_94 rfl rfl rfl (by omega) rfl ?_
      rw [(i2 n (by omega)).1]
      refine pr_aload_n 96 dX9_laysTrip_95 rfl rfl rfl ?_
      refine pr_getR0 99 dX9_laysTrip_96 fX9_94 rfl ?_
      refine pr_iload_n 100 dX9_laysTrip_99 rfl rfl rfl ?_
      refine pr_iaload n 101 dX9_laysTrip_100 rfl rfl rfl (by omega) rfl ?_
      rw [(i2 n (by omega)).2]
      refine pr_inv03 104 dX9_laysTrip_101 vX9_218 mX9_gives (sp_X9_gives t _ _ (by omega) (by omega) hsh) ⟨Nat.le_of_ble_eq_true rfl, Nat.le_of_ble_eq_true rfl⟩ (Nat.le_of_ble_eq_true rfl) rfl ?_
      refine pr_iinc 107 dX9_laysTrip_104 rfl (by first | exact pm_inc _ | rfl) (pm_st_3 rfl rfl) rfl ?_
      refine pr_goto 82 dX9_laysTrip_107 rfl ?_
      refine ih (n + 1) _ (by omega) ((i1.uI (t := 20289381) (i := 0) ⟨by simp, rfl⟩).uI ⟨by simp, rfl⟩) (fun i hi => by rw [pm_gIn (by simp), pm_gIn (by simp), pm_gIn (by simp), pm_gIn (by simp)]; exact i2 i hi) (fun l hl => ?_) (fun i hi => by rw [pm_gIn (by simp), pm_gIn (fun z => hi _ e1 z.2.2)]; exact i4 i hi)
      by_cases z : l = en (pl K lk o t) M n
      · subst z
        rw [pm_gIn (by simp), pm_gIe, pm_gIe, if_pos ⟨e2, by omega⟩, hof]
        exact ⟨rfl, rfl⟩
      · rw [pm_gIn (by simp), pm_gIn (fun y => z (by have := y.2.2; omega)), pm_gIn (fun y => z y.2.2), pm_gIn (by simp)]
        have eqq : (pl K lk o t l = true ∧ rk (pl K lk o t) l < n + 1) ↔ (pl K lk o t l = true ∧ rk (pl K lk o t) l < n) := by
          constructor
          · rintro ⟨q1, q2⟩
            refine ⟨q1, ?_⟩
            rcases Nat.lt_or_ge (rk (pl K lk o t) l) n with y | y
            · exact y
            · exfalso
              have e4 : rk (pl K lk o t) l = n := by omega
              have e5 := en_rk hl q1
              rw [e4] at e5
              exact z e5.symm
          · rintro ⟨q1, q2⟩
            exact ⟨q1, by omega⟩
        simp only [eqq]
        exact i3 l hl
  have lp1 : ∀ j l mem, l + j = M → pm_fr sMT mem0 mem → mem.1 20289381 0 = mem0.1 20289381 0 → mem.1 20017380 0 = mem0.1 20017380 0 → (∀ i, i < rk (pl K lk o t) l → mem.2.1 40017384 0 i = lN (ptl K w lk t (en (pl K lk o t) M i)) ∧ mem.1 20017383 0 i = nI (en (pl K lk o t) M i)) → PR cX9_laysTrip RX9 4 2 47 4 [some (pR 10009909 0), some (pI (nI t)), some (pI (nI (rk (pl K lk o t) l))), some (pI (nI l))] [] mem (pm_RX cX9_laysTrip none (fun r mem => r = none ∧ pm_fr sMT mem0 mem ∧ (∀ l, l < M → mem.1 20289381 0 (17 * t + l) = nI (oft K w lk M t l)) ∧ (∀ i, (∀ l, l < M → i ≠ 17 * t + l) → mem.1 20289381 0 i = mem0.1 20289381 0 i) ∧ ∀ l, l < M → mem.1 20017380 0 l = nI (g l + oft K w lk M t l))) := by
    intro j
    induction j with
    | zero =>
      intro l mem hj i1 i2 i3 i4
      have e : M = l := by omega
      subst e
      obtain ⟨m1, m2, m3⟩ := hm.fr i1 (mdO.fr i1 (by simp [sMT])) (by simp [sMT]) (by simp [sMT])
      refine pr_iload_n 5 dX9_laysTrip_4 rfl rfl rfl ?_
      refine pr_aload_n 6 dX9_laysTrip_5 rfl rfl rfl ?_
      refine pr_getI 9 dX9_laysTrip_6 fX9_176 rfl ?_
      rw [m1]
      refine pr_icmp_ge 69 12 dX9_laysTrip_9 rfl rfl (fun c_9 => ?_) (fun c_9 => absurd (Int32.le_refl _) (c_9))
      refine pr_aload_n 70 dX9_laysTrip_69 rfl rfl rfl ?_
      refine pr_aload_n 71 dX9_laysTrip_70 rfl rfl rfl ?_
      refine pr_getR0 74 dX9_laysTrip_71 fX9_82 rfl ?_
      refine pr_iload_n 75 dX9_laysTrip_74 rfl rfl rfl ?_
      refine pr_iaload t 76 dX9_laysTrip_75 rfl rfl rfl (by omega) rfl ?_
      rw [(i1 20016378 0 (by simp [sMT])).1, hgv]
      refine pr_iload_n 77 dX9_laysTrip_76 rfl rfl rfl ?_
      refine pr_inv0R2 80 dX9_laysTrip_77 vX9_198 mX9_parts (sp_X9_parts (m := fun j => ptl K w lk t (en (pl K lk o t) M j)) (by omega) (fun i hi => (i4 i hi).1) (fun i hi => by have := ptl_le hW hw ht (en_ok hi).1; omega) (by omega)) ⟨Nat.le_of_ble_eq_true rfl, Nat.le_of_ble_eq_true rfl⟩ (Nat.le_of_ble_eq_true rfl) rfl (fun mem1 g1 => ?_)
      refine pr_iconst (0) 81 dX9_laysTrip_80 (by decide) rfl ?_
      refine pr_istore_n 82 dX9_laysTrip_81 rfl (pm_st_3 rfl rfl) rfl ?_
      obtain ⟨j1, j2⟩ := g1
      have jf : pm_fr sMT mem mem1 := j1.mono (fun t i h => ⟨by rcases h.1 with z | z <;> simp [z], h.2⟩)
      refine lp2 (rk (pl K lk o t) M) 0 mem1 (by omega) (i1.tr jf) (fun i hi => ⟨by rw [(j1 20017383 0 (by simp [sMP])).1]; exact (i4 i hi).2, j2 i hi⟩) (fun l hl => ?_) (fun i _ => ?_)
      · rw [(j1 20289381 0 (by simp [sMP])).1, (j1 20017380 0 (by simp [sMP])).1, i2, i3, if_neg (fun z => absurd z.2 (Nat.not_lt_zero _)), h0 l hl, hg l hl]
        exact ⟨rfl, rfl⟩
      · rw [(j1 20289381 0 (by simp [sMP])).1, i2]
    | succ j ih =>
      intro l mem hj i1 i2 i3 i4
      have h1 := h.fr i1 (by simp [sMT])
      have hm1 := hm.fr i1 (mdO.fr i1 (by simp [sMT])) (by simp [sMT]) (by simp [sMT])
      obtain ⟨m1, m2, m3⟩ := hm1
      obtain ⟨w1, w2⟩ := hw.2 l (by omega)
      have ho := onI_eq (o := o) (l := l) (by omega) (fun k hk => by have := (hz k hk).1; omega)
      have hrl := rk_le (pl K lk o t) l
      have skip : ¬ pl K lk o t l = true → PR cX9_laysTrip RX9 4 2 47 63 [some (pR 10009909 0), some (pI (nI t)), some (pI (nI (rk (pl K lk o t) l))), some (pI (nI l))] [] mem (pm_RX cX9_laysTrip none (fun r mem => r = none ∧ pm_fr sMT mem0 mem ∧ (∀ l, l < M → mem.1 20289381 0 (17 * t + l) = nI (oft K w lk M t l)) ∧ (∀ i, (∀ l, l < M → i ≠ 17 * t + l) → mem.1 20289381 0 i = mem0.1 20289381 0 i) ∧ ∀ l, l < M → mem.1 20017380 0 l = nI (g l + oft K w lk M t l))) := by
        intro hs
        refine pr_iinc 66 dX9_laysTrip_63 rfl (by first | exact pm_inc _ | rfl) (pm_st_3 rfl rfl) rfl ?_
        refine pr_goto 4 dX9_laysTrip_66 rfl ?_
        have e : rk (pl K lk o t) (l + 1) = rk (pl K lk o t) l := by simp [rk, sm, hs]
        have := ih (l + 1) mem (by omega) i1 i2 i3 (by rw [e]; exact i4)
        rw [e] at this
        exact this
      refine pr_iload_n 5 dX9_laysTrip_4 rfl rfl rfl ?_
      refine pr_aload_n 6 dX9_laysTrip_5 rfl rfl rfl ?_
      refine pr_getI 9 dX9_laysTrip_6 fX9_176 rfl ?_
      rw [m1]
      refine pr_icmp_ge 69 12 dX9_laysTrip_9 rfl rfl (fun c_9 => absurd (c_9) (nI_ge (by omega) (by omega))) (fun c_9 => ?_)
      refine pr_iload_n 13 dX9_laysTrip_12 rfl rfl rfl ?_
      refine pr_aload_n 14 dX9_laysTrip_13 rfl rfl rfl ?_
      refine pr_getI 17 dX9_laysTrip_14 fX9_179 rfl ?_
      rw [m2]
      refine pr_icmp_eq 63 20 dX9_laysTrip_17 rfl rfl (fun c_17 => ?_) (fun c_17 => ?_)
      · rw [ho] at c_17
        exact skip (by simp [pl, c_17])
      · rw [ho] at c_17
        refine pr_aload_n 21 dX9_laysTrip_20 rfl rfl rfl ?_
        refine pr_iload_n 22 dX9_laysTrip_21 rfl rfl rfl ?_
        refine pr_iconst (5) 23 dX9_laysTrip_22 (by decide) rfl ?_
        refine pr_invD2 26 dX9_laysTrip_23 vX9_182 mX9_its (sp_its5 h1 t (by omega)) ⟨Nat.le_of_ble_eq_true rfl, Nat.le_of_ble_eq_true rfl⟩ (Nat.le_of_ble_eq_true rfl) rfl ?_
        refine pr_aload_n 27 dX9_laysTrip_26 rfl rfl rfl ?_
        refine pr_getR0 30 dX9_laysTrip_27 fX9_76 rfl ?_
        refine pr_iload_n 31 dX9_laysTrip_30 rfl rfl rfl ?_
        refine pr_iaload l 32 dX9_laysTrip_31 rfl rfl rfl (by omega) rfl ?_
        rw [(m3 l (by omega)).2]
        refine pr_ivsD2 35 dX9_laysTrip_32 sX9_132 mX9_has (sp_X9_has _ (lk l) (by omega)) ⟨Nat.le_of_ble_eq_true rfl, Nat.le_of_ble_eq_true rfl⟩ (Nat.le_of_ble_eq_true rfl) rfl ?_
        refine pr_if_ne 41 38 dX9_laysTrip_35 rfl rfl (fun c_35 => ?_) (fun c_35 => ?_)
        · have hb : (K (106 + 6 * t)).testBit (lk l) = true := Decidable.byContradiction (fun z => c_35 (by rw [if_neg z]))
          have hs : pl K lk o t l = true := by simp [pl, c_17, hb]
          refine pr_aload_n 42 dX9_laysTrip_41 rfl rfl rfl ?_
          refine pr_getR0 45 dX9_laysTrip_42 fX9_100 rfl ?_
          refine pr_iload_n 46 dX9_laysTrip_45 rfl rfl rfl ?_
          refine pr_aload_n 47 dX9_laysTrip_46 rfl rfl rfl ?_
          refine pr_iload_n 48 dX9_laysTrip_47 rfl rfl rfl ?_
          refine pr_iload_n 49 dX9_laysTrip_48 rfl rfl rfl ?_
          refine pr_invD2 52 dX9_laysTrip_49 vX9_186 mX9_partOf (sp_X9_partOf h1 hW hw ⟨m1, m2, m3⟩ hz ht (l := l) (by omega)) ⟨Nat.le_of_ble_eq_true rfl, Nat.le_of_ble_eq_true rfl⟩ (Nat.le_of_ble_eq_true rfl) rfl ?_
          refine pr_lastore (rk (pl K lk o t) l) 53 dX9_laysTrip_52 rfl rfl rfl (by omega) rfl ?_
          refine pr_aload_n 54 dX9_laysTrip_53 rfl rfl rfl ?_
          refine pr_getR0 57 dX9_laysTrip_54 fX9_97 rfl ?_
          refine pr_iload_n 58 dX9_laysTrip_57 rfl rfl rfl ?_
          refine pr_iload_n 59 dX9_laysTrip_58 rfl rfl rfl ?_
          refine pr_iastore (rk (pl K lk o t) l) 60 dX9_laysTrip_59 rfl rfl rfl (by omega) rfl ?_
          refine pr_iinc 63 dX9_laysTrip_60 rfl (by first | exact pm_inc _ | rfl) (pm_st_2 rfl rfl) rfl ?_
          refine pr_iinc 66 dX9_laysTrip_63 rfl (by first | exact pm_inc _ | rfl) (pm_st_3 rfl rfl) rfl ?_
          refine pr_goto 4 dX9_laysTrip_66 rfl ?_
          have e : rk (pl K lk o t) (l + 1) = rk (pl K lk o t) l + 1 := by simp [rk, sm, hs]
          rw [← e]
          refine ih (l + 1) _ (by omega) ((i1.uJ ⟨by simp, rfl⟩).uI ⟨by simp, rfl⟩) ?_ ?_ (fun i hi => ?_)
          · rw [← i2]; funext z; rw [pm_gIn (by simp), pm_gIJ]
          · rw [← i3]; funext z; rw [pm_gIn (by simp), pm_gIJ]
          · by_cases z : i = rk (pl K lk o t) l
            · subst z
              rw [pm_gJI, pm_gJe, pm_gIe, en_rk (by omega) hs]
              exact ⟨rfl, rfl⟩
            · rw [pm_gJI, pm_gJn (by omega), pm_gIn (by omega), pm_gIJ]
              exact i4 i (by omega)
        · have hb : ¬ (K (106 + 6 * t)).testBit (lk l) = true := fun z => by
            rw [if_pos z] at c_35
            exact absurd c_35 (by decide)
          refine pr_goto 63 dX9_laysTrip_38 rfl ?_
          exact skip (by simp [pl, hb])
  refine Cl.of (own := RX9) rfl rfl (Nat.le_of_ble_eq_true rfl) rfl ?_; show PR _ _ _ _ _ _ [some _, some _, none, none] _ _ _
  refine pr_iconst (0) 1 dX9_laysTrip_0 (by decide) rfl ?_
  refine pr_istore_n 2 dX9_laysTrip_1 rfl (pm_st_2 rfl rfl) rfl ?_
  refine pr_iconst (0) 3 dX9_laysTrip_2 (by decide) rfl ?_
  refine pr_istore_n 4 dX9_laysTrip_3 rfl (pm_st_3 rfl rfl) rfl ?_
  exact lp1 M 0 mem0 (by omega) pm_fr.rf rfl rfl (fun i hi => absurd hi (Nat.not_lt_zero _))
end MAC
