/-! the reference: changed, hubs, dueOf, countsOf -/
section MQQ
variable {mem : pm_M} {K w lk : Nat → Nat} {M : Nat} {o : Option Nat}
def chs (K : Nat → Nat) (b : Bool) (p l : Nat) : Nat := sm (fun l => (if b = true then K (20 + l) else 1) * ch K l p (K 40)) l
set_option maxRecDepth 100000 in
theorem sp_X9_changed (h : rowR 20869371 mem K) (hW : WF K) {p : Nat} (hp : p < 12) (b : Bool) : Cd yX9_changed cX9_changed 7 (some .int) 1 22 [pR 10009909 0, pI (nI p), pI (if b = true then 1 else 0)] mem (some (pI (nI (chs K b p (K 39))))) mem := by
  have h16 := hW.2.2.2.2.1
  have hn16 := hW.2.2.2.1
  have h12 := hW.2.1
  have hbz : (if b = true then (1 : Int32) else 0) = 0 ↔ ¬ b = true := by cases b <;> simp
  have lp1 : ∀ j l a5 a6, l + j = K 39 → pm_nl a5 = true → PR cX9_changed RX9 7 1 22 5 [some (pR 10009909 0), some (pI (nI p)), some (pI (if b = true then 1 else 0)), some (pI (nI (chs K b p l))), some (pI (nI l)), a5, a6] [] mem (pm_RX cX9_changed (some .int) (fun r' m' => r' = some (pI (nI (chs K b p (K 39)))) ∧ m' = mem)) := by
    intro j
    induction j with
    | zero =>
      intro l a5 a6 hj hn5
      have e : l = K 39 := by omega
      subst e
      refine pr_iload 7 dX9_changed_5 rfl rfl ?_
      refine pr_aload_n 8 dX9_changed_7 rfl rfl rfl ?_
      refine pr_invD0 11 dX9_changed_8 vX9_170 mX9_loads (sp_X9_loads h) ⟨Nat.le_of_ble_eq_true rfl, Nat.le_of_ble_eq_true rfl⟩ (Nat.le_of_ble_eq_true rfl) rfl ?_
      refine pr_icmp_ge 126 14 dX9_changed_11 rfl rfl (fun c_11 => ?_) (fun c_11 => absurd (Int32.le_refl _) (c_11))
      refine pr_iload_n 127 dX9_changed_126 rfl rfl rfl ?_
      refine pr_ireturn dX9_changed_127 rfl ?_
      exact ⟨rfl, rfl⟩
    | succ j ih =>
      intro l a5 a6 hj hn5
      have lp2 : ∀ j t, t + j = K 40 → PR cX9_changed RX9 7 1 22 20 [some (pR 10009909 0), some (pI (nI p)), some (pI (if b = true then 1 else 0)), some (pI (nI (chs K b p l + (if b = true then K (20 + l) else 1) * ch K l p t))), some (pI (nI l)), some (pI (onI (lo K l t))), some (pI (nI t))] [] mem (pm_RX cX9_changed (some .int) (fun r' m' => r' = some (pI (nI (chs K b p (K 39)))) ∧ m' = mem)) := by
        intro j
        induction j with
        | zero =>
          intro t hj2
          have e : t = K 40 := by omega
          subst e
          refine pr_iload 22 dX9_changed_20 rfl rfl ?_
          refine pr_aload_n 23 dX9_changed_22 rfl rfl rfl ?_
          refine pr_invD0 26 dX9_changed_23 vX9_173 mX9_trips (sp_X9_trips h) ⟨Nat.le_of_ble_eq_true rfl, Nat.le_of_ble_eq_true rfl⟩ (Nat.le_of_ble_eq_true rfl) rfl ?_
          refine pr_icmp_ge 120 29 dX9_changed_26 rfl rfl (fun c_26 => ?_) (fun c_26 => absurd (Int32.le_refl _) (c_26))
          refine pr_iinc 123 dX9_changed_120 rfl (by first | exact pm_inc _ | rfl) (pm_st_4 rfl rfl) rfl ?_
          refine pr_goto 5 dX9_changed_123 rfl ?_
          exact ih (l + 1) _ _ (by omega) rfl
        | succ j ih2 =>
          intro t hj2
          have hlo : ∀ a, lo K l t = some a → a < 12 := fun a ha => by have := lo_lt hW (by omega) ha; omega
          have hon : onI (lo K l t) = nI p ↔ lo K l t = some p := by
            have := onI_eq (o := lo K l t) (l := p) (by omega) (fun k hk => by have := hlo k hk; omega)
            rw [← this]
            exact eq_comm
          have tail : bit K t l = true → PR cX9_changed RX9 7 1 22 95 [some (pR 10009909 0), some (pI (nI p)), some (pI (if b = true then 1 else 0)), some (pI (nI (chs K b p l + (if b = true then K (20 + l) else 1) * ch K l p (t + 1)))), some (pI (nI l)), some (pI (onI (lo K l t))), some (pI (nI t))] [] mem (pm_RX cX9_changed (some .int) (fun r' m' => r' = some (pI (nI (chs K b p (K 39)))) ∧ m' = mem)) := by
            intro hb
            refine pr_aload_n 96 dX9_changed_95 rfl rfl rfl ?_
            refine pr_getR0 99 dX9_changed_96 fX9_64 rfl ?_
            refine pr_sipush (453) 102 dX9_changed_99 (by decide) rfl ?_
            refine pr_bipush (16) 104 dX9_changed_102 (by decide) rfl ?_
            refine pr_iload 106 dX9_changed_104 rfl rfl ?_
            refine pr_imul 107 dX9_changed_106 rfl ?_
            refine pr_iadd 108 dX9_changed_107 rfl ?_
            refine pr_iload 110 dX9_changed_108 rfl rfl ?_
            refine pr_iadd 111 dX9_changed_110 rfl ?_
            refine pr_iaload (453 + 16 * t + l) 112 dX9_changed_111 rfl rfl (ix_off t l) (by omega) rfl ?_
            rw [h.1 _ (by omega) (by omega)]
            refine pr_istore 114 dX9_changed_112 (pm_st_5 rfl rfl) rfl ?_
            refine pr_iinc 117 dX9_changed_114 rfl (by first | exact pm_inc _ | rfl) (pm_st_6 rfl rfl) rfl ?_
            refine pr_goto 20 dX9_changed_117 rfl ?_
            have := ih2 (t + 1) (by omega)
            rw [show lo K l (t + 1) = some (K (453 + 16 * t + l)) by rw [lo, if_pos hb]] at this
            exact this
          refine pr_iload 22 dX9_changed_20 rfl rfl ?_
          refine pr_aload_n 23 dX9_changed_22 rfl rfl rfl ?_
          refine pr_invD0 26 dX9_changed_23 vX9_173 mX9_trips (sp_X9_trips h) ⟨Nat.le_of_ble_eq_true rfl, Nat.le_of_ble_eq_true rfl⟩ (Nat.le_of_ble_eq_true rfl) rfl ?_
          refine pr_icmp_ge 120 29 dX9_changed_26 rfl rfl (fun c_26 => absurd (c_26) (nI_ge (by omega) (by omega))) (fun c_26 => ?_)
          refine pr_aload_n 30 dX9_changed_29 rfl rfl rfl ?_
          refine pr_iload 32 dX9_changed_30 rfl rfl ?_
          refine pr_iconst (5) 33 dX9_changed_32 (by decide) rfl ?_
          refine pr_invD2 36 dX9_changed_33 vX9_182 mX9_its (sp_its5 h t (by omega)) ⟨Nat.le_of_ble_eq_true rfl, Nat.le_of_ble_eq_true rfl⟩ (Nat.le_of_ble_eq_true rfl) rfl ?_
          refine pr_iload 38 dX9_changed_36 rfl rfl ?_
          refine pr_ivsD2 41 dX9_changed_38 sX9_132 mX9_has (sp_X9_has _ l (by omega)) ⟨Nat.le_of_ble_eq_true rfl, Nat.le_of_ble_eq_true rfl⟩ (Nat.le_of_ble_eq_true rfl) rfl ?_
          refine pr_if_ne 47 44 dX9_changed_41 rfl rfl (fun c_41 => ?_) (fun c_41 => ?_)
          · have hb : bit K t l = true := by
              unfold bit
              exact Decidable.byContradiction (fun z => c_41 (by rw [if_neg z]))
            obtain ⟨b1, b2, b3⟩ := hW.2.2.2.2.2.2.2.2.2 t l (by omega) hb
            refine pr_iload 49 dX9_changed_47 rfl rfl ?_
            refine pr_iload_n 50 dX9_changed_49 rfl rfl rfl ?_
            refine pr_icmp_ne 95 53 dX9_changed_50 rfl rfl (fun c_50 => ?_) (fun c_50 => ?_)
            · rw [hon] at c_50
              have := tail hb
              rw [ch_n (fun z => c_50 z.2.1)] at this
              exact this
            · rw [hon] at c_50
              refine pr_aload_n 54 dX9_changed_53 rfl rfl rfl ?_
              refine pr_getR0 57 dX9_changed_54 fX9_64 rfl ?_
              refine pr_sipush (197) 60 dX9_changed_57 (by decide) rfl ?_
              refine pr_bipush (16) 62 dX9_changed_60 (by decide) rfl ?_
              refine pr_iload 64 dX9_changed_62 rfl rfl ?_
              refine pr_imul 65 dX9_changed_64 rfl ?_
              refine pr_iadd 66 dX9_changed_65 rfl ?_
              refine pr_iload 68 dX9_changed_66 rfl rfl ?_
              refine pr_iadd 69 dX9_changed_68 rfl ?_
              refine pr_iaload (197 + 16 * t + l) 70 dX9_changed_69 rfl rfl (ix_on t l) (by omega) rfl ?_
              rw [h.1 _ (by omega) (by omega)]
              refine pr_iload_n 71 dX9_changed_70 rfl rfl rfl ?_
              refine pr_icmp_ne 95 74 dX9_changed_71 rfl rfl (fun c_71 => ?_) (fun c_71 => ?_)
              · rw [nI_eq (by omega) (by omega)] at c_71
                have := tail hb
                rw [ch_n (fun z => c_71 z.2.2)] at this
                exact this
              · rw [nI_eq (by omega) (by omega)] at c_71
                have tl := tail hb
                rw [ch_p ⟨hb, c_50, c_71⟩, Nat.mul_add, Nat.mul_one, ← Nat.add_assoc] at tl
                refine pr_iload_n 75 dX9_changed_74 rfl rfl rfl ?_
                refine pr_iload_n 76 dX9_changed_75 rfl rfl rfl ?_
                refine pr_if_eq 92 79 dX9_changed_76 rfl rfl (fun c_76 => ?_) (fun c_76 => ?_)
                · rw [hbz] at c_76
                  rw [if_neg c_76, if_neg c_76] at tl ⊢
                  refine pr_iconst (1) 93 dX9_changed_92 (by decide) rfl ?_
                  refine pr_iadd 94 dX9_changed_93 rfl ?_
                  rw [show (1 : Int32) = nI 1 from rfl, nI_add]
                  refine pr_istore_n 95 dX9_changed_94 rfl (pm_st_3 rfl rfl) rfl ?_
                  exact tl
                · rw [hbz, Decidable.not_not] at c_76
                  rw [if_pos c_76, if_pos c_76] at tl ⊢
                  refine pr_aload_n 80 dX9_changed_79 rfl rfl rfl ?_
                  refine pr_getR0 83 dX9_changed_80 fX9_64 rfl ?_
                  refine pr_bipush (20) 85 dX9_changed_83 (by decide) rfl ?_
                  refine pr_iload 87 dX9_changed_85 rfl rfl ?_
                  refine pr_iadd 88 dX9_changed_87 rfl ?_
                  refine pr_iaload (20 + l) 89 dX9_changed_88 rfl rfl (nI_add 20 l) (by omega) rfl ?_
                  rw [h.1 _ (by omega) (by omega)]
                  refine pr_goto 93 dX9_changed_89 rfl ?_
                  refine pr_iadd 94 dX9_changed_93 rfl ?_
                  rw [nI_add]
                  refine pr_istore_n 95 dX9_changed_94 rfl (pm_st_3 rfl rfl) rfl ?_
                  exact tl
          · have hb : ¬ bit K t l = true := fun z => by
              unfold bit at z
              rw [if_pos z] at c_41
              exact absurd c_41 (by decide)
            refine pr_goto 114 dX9_changed_44 rfl ?_
            refine pr_iinc 117 dX9_changed_114 rfl (by first | exact pm_inc _ | rfl) (pm_st_6 rfl rfl) rfl ?_
            refine pr_goto 20 dX9_changed_117 rfl ?_
            have := ih2 (t + 1) (by omega)
            rw [show lo K l (t + 1) = lo K l t by rw [lo, if_neg hb], ch_n (fun z => hb z.1)] at this
            exact this
      refine pr_iload 7 dX9_changed_5 rfl rfl ?_
      refine pr_aload_n 8 dX9_changed_7 rfl rfl rfl ?_
      refine pr_invD0 11 dX9_changed_8 vX9_170 mX9_loads (sp_X9_loads h) ⟨Nat.le_of_ble_eq_true rfl, Nat.le_of_ble_eq_true rfl⟩ (Nat.le_of_ble_eq_true rfl) rfl ?_
      refine pr_icmp_ge 126 14 dX9_changed_11 rfl rfl (fun c_11 => absurd (c_11) (nI_ge (by omega) (by omega))) (fun c_11 => ?_)
      refine pr_iconst (-1) 15 dX9_changed_14 (by decide) rfl ?_
      refine pr_istore 17 dX9_changed_15 (pm_st_5 rfl rfl) rfl ?_
      refine pr_iconst (0) 18 dX9_changed_17 (by decide) rfl ?_
      refine pr_istore 20 dX9_changed_18 (pm_st_6 rfl rfl) rfl ?_
      exact lp2 (K 40) 0 (by omega)
  refine Cl.of (own := RX9) rfl rfl (Nat.le_of_ble_eq_true rfl) rfl ?_; show PR _ _ _ _ _ _ [some _, some _, some _, none, none, none, none] _ _ _
  refine pr_iconst (0) 1 dX9_changed_0 (by decide) rfl ?_
  refine pr_istore_n 2 dX9_changed_1 rfl (pm_st_3 rfl rfl) rfl ?_
  refine pr_iconst (0) 3 dX9_changed_2 (by decide) rfl ?_
  refine pr_istore 5 dX9_changed_3 (pm_st_4 rfl rfl) rfl ?_
  exact lp1 (K 39) 0 _ _ (by omega) rfl
def hbs (K : Nat → Nat) : Nat → Nat
  | 0 => 0
  | p + 1 => if 0 < chs K false p (K 39) then hbs K p ||| 2 ^ p else hbs K p
theorem ch_le (K : Nat → Nat) (l p : Nat) : ∀ t, ch K l p t ≤ t
  | 0 => Nat.le_refl _
  | t + 1 => by
    have := ch_le K l p t
    rw [ch_s]
    split <;> omega
theorem chs_le {K : Nat → Nat} (hW : WF K) (b : Bool) (p : Nat) {l : Nat} (hl : l ≤ K 39) : chs K b p l ≤ 25344 := by
  have h16 := hW.2.2.2.2.1
  have hn16 := hW.2.2.2.1
  have := sm_bnd (f := fun l => (if b = true then K (20 + l) else 1) * ch K l p (K 40)) (n := l) (b := 99 * 16) (fun q hq => by
    have h1 := (hW.2.2.2.2.2.2.2.1 q (by omega)).1
    have h2 := ch_le K q p (K 40)
    refine Nat.mul_le_mul ?_ (by omega)
    split <;> omega)
  have h3 : l * (99 * 16) ≤ 16 * (99 * 16) := Nat.mul_le_mul_right _ (by omega)
  unfold chs
  omega
set_option maxRecDepth 100000 in
theorem sp_X9_hubs (h : rowR 20869371 mem K) (hW : WF K) : Cd yX9_hubs cX9_hubs 3 (some .int) 2 48 [pR 10009909 0] mem (some (pI (nI (hbs K (K 37))))) mem := by
  have h12 := hW.2.1
  have lp : ∀ j p, p + j = K 37 → PR cX9_hubs RX9 3 2 48 4 [some (pR 10009909 0), some (pI (nI (hbs K p))), some (pI (nI p))] [] mem (pm_RX cX9_hubs (some .int) (fun r' m' => r' = some (pI (nI (hbs K (K 37)))) ∧ m' = mem)) := by
    intro j
    induction j with
    | zero =>
      intro p hj
      have e : p = K 37 := by omega
      subst e
      refine pr_iload_n 5 dX9_hubs_4 rfl rfl rfl ?_
      refine pr_aload_n 6 dX9_hubs_5 rfl rfl rfl ?_
      refine pr_getR0 9 dX9_hubs_6 fX9_64 rfl ?_
      refine pr_bipush (37) 11 dX9_hubs_9 (by decide) rfl ?_
      refine pr_iaload 37 12 dX9_hubs_11 rfl rfl rfl (by omega) rfl ?_
      rw [h.1 37 (by omega) (by omega)]
      refine pr_icmp_ge 36 15 dX9_hubs_12 rfl rfl (fun c_12 => ?_) (fun c_12 => absurd (Int32.le_refl _) (c_12))
      refine pr_iload_n 37 dX9_hubs_36 rfl rfl rfl ?_
      refine pr_ireturn dX9_hubs_37 rfl ?_
      exact ⟨rfl, rfl⟩
    | succ j ih =>
      intro p hj
      have hle := chs_le hW false p (Nat.le_refl (K 39))
      have hz : nI (chs K false p (K 39)) ≤ 0 ↔ chs K false p (K 39) ≤ 0 := by rw [show (0 : Int32) = nI 0 from rfl, nI_leI (by omega) (by omega)]
      refine pr_iload_n 5 dX9_hubs_4 rfl rfl rfl ?_
      refine pr_aload_n 6 dX9_hubs_5 rfl rfl rfl ?_
      refine pr_getR0 9 dX9_hubs_6 fX9_64 rfl ?_
      refine pr_bipush (37) 11 dX9_hubs_9 (by decide) rfl ?_
      refine pr_iaload 37 12 dX9_hubs_11 rfl rfl rfl (by omega) rfl ?_
      rw [h.1 37 (by omega) (by omega)]
      refine pr_icmp_ge 36 15 dX9_hubs_12 rfl rfl (fun c_12 => absurd (c_12) (nI_ge (by omega) (by omega))) (fun c_12 => ?_)
      refine pr_aload_n 16 dX9_hubs_15 rfl rfl rfl ?_
      refine pr_iload_n 17 dX9_hubs_16 rfl rfl rfl ?_
      refine pr_iconst (0) 18 dX9_hubs_17 (by decide) rfl ?_
      refine pr_invD2 21 dX9_hubs_18 vX9_233 mX9_changed (sp_X9_changed h hW (p := p) (by omega) false) ⟨Nat.le_of_ble_eq_true rfl, Nat.le_of_ble_eq_true rfl⟩ (Nat.le_of_ble_eq_true rfl) rfl ?_
      refine pr_if_le 30 24 dX9_hubs_21 rfl rfl (fun c_21 => ?_) (fun c_21 => ?_)
      · rw [hz] at c_21
        refine pr_iinc 33 dX9_hubs_30 rfl (by first | exact pm_inc _ | rfl) (pm_st_2 rfl rfl) rfl ?_
        refine pr_goto 4 dX9_hubs_33 rfl ?_
        have := ih (p + 1) (by omega)
        rw [hbs, if_neg (by omega)] at this
        exact this
      · rw [hz] at c_21
        refine pr_iload_n 25 dX9_hubs_24 rfl rfl rfl ?_
        refine pr_iconst (1) 26 dX9_hubs_25 (by decide) rfl ?_
        refine pr_iload_n 27 dX9_hubs_26 rfl rfl rfl ?_
        refine pr_ishl 28 dX9_hubs_27 rfl ?_
        rw [nI_shl1 p (by omega)]
        refine pr_ior 29 dX9_hubs_28 rfl ?_
        rw [nI_orN]
        refine pr_istore_n 30 dX9_hubs_29 rfl (pm_st_1 rfl rfl) rfl ?_
        refine pr_iinc 33 dX9_hubs_30 rfl (by first | exact pm_inc _ | rfl) (pm_st_2 rfl rfl) rfl ?_
        refine pr_goto 4 dX9_hubs_33 rfl ?_
        have := ih (p + 1) (by omega)
        rw [hbs, if_pos (by omega)] at this
        exact this
  refine Cl.of (own := RX9) rfl rfl (Nat.le_of_ble_eq_true rfl) rfl ?_; show PR _ _ _ _ _ _ [some _, none, none] _ _ _
  refine pr_iconst (0) 1 dX9_hubs_0 (by decide) rfl ?_
  refine pr_istore_n 2 dX9_hubs_1 rfl (pm_st_1 rfl rfl) rfl ?_
  refine pr_iconst (0) 3 dX9_hubs_2 (by decide) rfl ?_
  refine pr_istore_n 4 dX9_hubs_3 rfl (pm_st_2 rfl rfl) rfl ?_
  exact lp (K 37) 0 (by omega)
def due (K : Nat → Nat) (l : Nat) : Nat := (K (20 + l) * gsm K (gla K l) * K 36 + 999) / 1000
theorem gps_len {K : Nat → Nat} (hW : WF K) : (gps K).length ≤ 288 := by
  have h16 := hW.2.2.2.2.1
  have hn16 := hW.2.2.2.1
  unfold gps
  rw [List.length_append]
  have a1 := gks_le K (K 38)
  have a2 := gls_len K (K 39)
  have a3 : K 39 * (K 40 + 1) ≤ 16 * 17 := Nat.mul_le_mul (by omega) (by omega)
  omega
theorem gks_pl {K : Nat → Nat} (h : WF K) : ∀ {k : Nat}, ∀ q ∈ gks K k, q.2.1 < K 37 ∧ q.2.2 < K 37 := by
  have g : ∀ k t, t ≤ K 40 → ∀ q ∈ gk K k t, q.2.1 < K 37 ∧ q.2.2 < K 37 := by
    intro k t
    induction t with
    | zero => intro _ q hq; simp [gk] at hq
    | succ t ih =>
      intro ht q hq
      have h9 := (h.2.2.2.2.2.2.2.2.1 t (by omega)).2.2.2.1
      unfold gk at hq
      split at hq
      next hc =>
        rcases List.mem_append.mp hq with z | z
        · exact ih (by omega) q z
        · rw [List.mem_singleton.mp z]
          refine ⟨?_, h9⟩
          show (lt K k t).getD (K (104 + 6 * t)) < K 37
          cases e : lt K k t with
          | none => exact h9
          | some a => exact lt_lt h (by omega) e
      · exact ih (by omega) q hq
  intro k
  induction k with
  | zero => intro q hq; simp [gks] at hq
  | succ k ih =>
    intro q hq
    unfold gks at hq
    rcases List.mem_append.mp hq with z | z
    · exact ih q z
    · exact g k _ (Nat.le_refl _) q z
theorem gps_pl {K : Nat → Nat} (h : WF K) : ∀ q ∈ gps K, q.2.1 < K 37 ∧ q.2.2 < K 37 ∧ q.1 < 116 := by
  have g : ∀ n, n ≤ K 39 → ∀ q ∈ gls K n, q.2.1 < K 37 ∧ q.2.2 < K 37 ∧ q.1 < 116 := by
    intro n
    induction n with
    | zero => intro _ q hq; simp [gls] at hq
    | succ n ih =>
      intro hn q hq
      have hn16 := h.2.2.2.1
      unfold gls at hq
      rcases List.mem_append.mp hq with z | z
      · exact ih (by omega) q z
      · have a := gla_pl h (l := n) (by omega) q z
        have b := gla_own z
        exact ⟨a.1, a.2, by omega⟩
  intro q hq
  unfold gps at hq
  have h4 := h.2.2.1
  rcases List.mem_append.mp hq with z | z
  · have a := gks_pl h q z
    have b := gks_own z
    exact ⟨a.1, a.2, by omega⟩
  · exact g _ (Nat.le_refl _) q z
set_option maxRecDepth 100000 in
theorem sp_X9_dueOf (h : rowR 20869371 mem K) (hW : WF K) (hg : gapM mem (gps K)) {l : Nat} (hl : l < K 39) : Cd yX9_dueOf cX9_dueOf 5 (some .int) 1 24 [pR 10009909 0, pI (nI l)] mem (some (pI (nI (due K l)))) mem := by
  have h12 := hW.2.1
  have hn16 := hW.2.2.2.1
  have hgl := gps_len hW
  have hr := hW.1
  have hw := (hW.2.2.2.2.2.2.2.1 l hl).1
  obtain ⟨g1, g2⟩ := hg
  have fin : gsm K ((gps K).filter (fun q => q.1 == 100 + l)) ≤ 17 * 198 := by
    rw [gps_fil hW hl]
    have a1 := gsm_le hW (gla_pl hW hl)
    have a2 := gla_len K l
    have h16 := hW.2.2.2.2.1
    have a3 : (gla K l).length * 198 ≤ 17 * 198 := Nat.mul_le_mul_right _ (by omega)
    omega
  have lp : ∀ j k, k + j = (gps K).length → PR cX9_dueOf RX9 5 1 24 5 [some (pR 10009909 0), some (pI (nI l)), some (pJ (lN (K (20 + l) * gsm K (((gps K).take k).filter (fun q => q.1 == 100 + l)) * K 36))), none, some (pI (nI k))] [] mem (pm_RX cX9_dueOf (some .int) (fun r' m' => r' = some (pI (nI (due K l))) ∧ m' = mem)) := by
    intro j
    induction j with
    | zero =>
      intro k hj
      have e : k = (gps K).length := by omega
      subst e
      rw [List.take_length]
      have hb : K (20 + l) * gsm K ((gps K).filter (fun q => q.1 == 100 + l)) * K 36 ≤ 99 * (17 * 198) * 999 := Nat.mul_le_mul (Nat.mul_le_mul hw fin) hr
      refine pr_iload 7 dX9_dueOf_5 rfl rfl ?_
      refine pr_aload_n 8 dX9_dueOf_7 rfl rfl rfl ?_
      refine pr_getI 11 dX9_dueOf_8 fX9_227 rfl ?_
      rw [g1]
      refine pr_icmp_ge 89 14 dX9_dueOf_11 rfl rfl (fun c_11 => ?_) (fun c_11 => absurd (Int32.le_refl _) (c_11))
      refine pr_lload_n 90 dX9_dueOf_89 rfl rfl rfl ?_
      refine pr_ldc2 _ 93 dX9_dueOf_90 kX9_252 rfl ?_
      refine pr_ladd 94 dX9_dueOf_93 rfl ?_
      rw [show (999 : Int64) = lN 999 from rfl, lN_add]
      refine pr_ldc2 _ 97 dX9_dueOf_94 kX9_254 rfl ?_
      refine pr_ldiv (by decide) 98 dX9_dueOf_97 rfl ?_
      rw [show (1000 : Int64) = lN 1000 from rfl, lN_div (by omega) (by omega)]
      refine pr_l2i 99 dX9_dueOf_98 rfl ?_
      rw [lN_i, gps_fil hW hl]
      refine pr_ireturn dX9_dueOf_99 rfl ?_
      exact ⟨rfl, rfl⟩
    | succ j ih =>
      intro k hj
      obtain ⟨q, hq⟩ : ∃ q, (gps K)[k]? = some q := ⟨_, List.getElem?_eq_getElem (by omega)⟩
      obtain ⟨q1, q2, q3⟩ := g2 k q hq
      obtain ⟨p1, p2, p3⟩ := gps_pl hW q (List.mem_of_getElem? hq)
      have hdd := dd_le hW (p := q.2.1) (q := q.2.2) (by omega) (by omega)
      have hex : (gps K).take (k + 1) = (gps K).take k ++ [q] := by
        rw [List.take_add_one, hq]; rfl
      refine pr_iload 7 dX9_dueOf_5 rfl rfl ?_
      refine pr_aload_n 8 dX9_dueOf_7 rfl rfl rfl ?_
      refine pr_getI 11 dX9_dueOf_8 fX9_227 rfl ?_
      rw [g1]
      refine pr_icmp_ge 89 14 dX9_dueOf_11 rfl rfl (fun c_11 => absurd (c_11) (nI_ge (by omega) (by omega))) (fun c_11 => ?_)
      refine pr_aload_n 15 dX9_dueOf_14 rfl rfl rfl ?_
      refine pr_getR0 18 dX9_dueOf_15 fX9_107 rfl ?_
      refine pr_iconst (3) 19 dX9_dueOf_18 (by decide) rfl ?_
      refine pr_iload 21 dX9_dueOf_19 rfl rfl ?_
      refine pr_imul 22 dX9_dueOf_21 rfl ?_
      refine pr_iaload (3 * k) 23 dX9_dueOf_22 rfl rfl (ix_3 k) (by omega) rfl ?_
      rw [q1]
      refine pr_bipush (100) 25 dX9_dueOf_23 (by decide) rfl ?_
      refine pr_iload_n 26 dX9_dueOf_25 rfl rfl rfl ?_
      refine pr_iadd 27 dX9_dueOf_26 rfl ?_
      rw [show (100 : Int32) = nI 100 from rfl, nI_add]
      refine pr_icmp_ne 83 30 dX9_dueOf_27 rfl rfl (fun c_27 => ?_) (fun c_27 => ?_)
      · rw [nI_eq (by omega) (by omega)] at c_27
        refine pr_iinc 86 dX9_dueOf_83 rfl (by first | exact pm_inc _ | rfl) (pm_st_4 rfl rfl) rfl ?_
        refine pr_goto 5 dX9_dueOf_86 rfl ?_
        have := ih (k + 1) (by omega)
        rw [hex, List.filter_append, filter_no (a := [q]) (fun x hx => by rw [List.mem_singleton.mp hx]; simp [c_27]), List.append_nil] at this
        exact this
      · rw [nI_eq (by omega) (by omega)] at c_27
        refine pr_lload_n 31 dX9_dueOf_30 rfl rfl rfl ?_
        refine pr_aload_n 32 dX9_dueOf_31 rfl rfl rfl ?_
        refine pr_getR0 35 dX9_dueOf_32 fX9_64 rfl ?_
        refine pr_bipush (20) 37 dX9_dueOf_35 (by decide) rfl ?_
        refine pr_iload_n 38 dX9_dueOf_37 rfl rfl rfl ?_
        refine pr_iadd 39 dX9_dueOf_38 rfl ?_
        refine pr_iaload (20 + l) 40 dX9_dueOf_39 rfl rfl (nI_add 20 l) (by omega) rfl ?_
        rw [h.1 _ (by omega) (by omega)]
        refine pr_i2l 41 dX9_dueOf_40 rfl ?_
        rw [nI_l (by omega)]
        refine pr_aload_n 42 dX9_dueOf_41 rfl rfl rfl ?_
        refine pr_getR0 45 dX9_dueOf_42 fX9_64 rfl ?_
        refine pr_aload_n 46 dX9_dueOf_45 rfl rfl rfl ?_
        refine pr_getR0 49 dX9_dueOf_46 fX9_107 rfl ?_
        refine pr_iconst (3) 50 dX9_dueOf_49 (by decide) rfl ?_
        refine pr_iload 52 dX9_dueOf_50 rfl rfl ?_
        refine pr_imul 53 dX9_dueOf_52 rfl ?_
        refine pr_iconst (1) 54 dX9_dueOf_53 (by decide) rfl ?_
        refine pr_iadd 55 dX9_dueOf_54 rfl ?_
        refine pr_iaload (3 * k + 1) 56 dX9_dueOf_55 rfl rfl (ix_31 k) (by omega) rfl ?_
        rw [q2]
        refine pr_aload_n 57 dX9_dueOf_56 rfl rfl rfl ?_
        refine pr_getR0 60 dX9_dueOf_57 fX9_107 rfl ?_
        refine pr_iconst (3) 61 dX9_dueOf_60 (by decide) rfl ?_
        refine pr_iload 63 dX9_dueOf_61 rfl rfl ?_
        refine pr_imul 64 dX9_dueOf_63 rfl ?_
        refine pr_iconst (2) 65 dX9_dueOf_64 (by decide) rfl ?_
        refine pr_iadd 66 dX9_dueOf_65 rfl ?_
        refine pr_iaload (3 * k + 2) 67 dX9_dueOf_66 rfl rfl (ix_32 k) (by omega) rfl ?_
        rw [q3]
        refine pr_ivsD3 70 dX9_dueOf_67 sX9_128 mX9_directOf (sp_direct_now h _ _ (by omega) (by omega) (hW.2.2.2.2.2.2.1 _ (by omega)) (hW.2.2.2.2.2.2.1 _ (by omega))) ⟨Nat.le_of_ble_eq_true rfl, Nat.le_of_ble_eq_true rfl⟩ (Nat.le_of_ble_eq_true rfl) rfl ?_
        refine pr_i2l 71 dX9_dueOf_70 rfl ?_
        rw [nI_l (by omega)]
        refine pr_lmul 72 dX9_dueOf_71 rfl ?_
        rw [lN_mul]
        refine pr_aload_n 73 dX9_dueOf_72 rfl rfl rfl ?_
        refine pr_getR0 76 dX9_dueOf_73 fX9_64 rfl ?_
        refine pr_bipush (36) 78 dX9_dueOf_76 (by decide) rfl ?_
        refine pr_iaload 36 79 dX9_dueOf_78 rfl rfl rfl (by omega) rfl ?_
        rw [h.1 36 (by omega) (by omega)]
        refine pr_i2l 80 dX9_dueOf_79 rfl ?_
        rw [nI_l (by omega)]
        refine pr_lmul 81 dX9_dueOf_80 rfl ?_
        rw [lN_mul]
        refine pr_ladd 82 dX9_dueOf_81 rfl ?_
        rw [lN_add]
        refine pr_lstore_n 83 dX9_dueOf_82 rfl (pm_st2_2 rfl) rfl ?_
        refine pr_iinc 86 dX9_dueOf_83 rfl (by first | exact pm_inc _ | rfl) (pm_st_4 rfl rfl) rfl ?_
        refine pr_goto 5 dX9_dueOf_86 rfl ?_
        have := ih (k + 1) (by omega)
        rw [hex, List.filter_append, filter_all (a := [q]) (fun x hx => by rw [List.mem_singleton.mp hx]; simp [c_27]), gsm_app] at this
        rw [show gsm K [q] = dd K q.2.1 q.2.2 from rfl, Nat.mul_add, Nat.add_mul] at this
        exact this
  refine Cl.of (own := RX9) rfl rfl (Nat.le_of_ble_eq_true rfl) rfl ?_; show PR _ _ _ _ _ _ [some _, some _, none, none, none] _ _ _
  refine pr_lconst (0) 1 dX9_dueOf_0 (by decide) rfl ?_
  refine pr_lstore_n 2 dX9_dueOf_1 rfl (pm_st2_2 rfl) rfl ?_
  refine pr_iconst (0) 3 dX9_dueOf_2 (by decide) rfl ?_
  refine pr_istore 5 dX9_dueOf_3 (pm_st_4 rfl rfl) rfl ?_
  have := lp (gps K).length 0 (by omega)
  rw [List.take_zero, show gsm K (([] : List gG).filter (fun q => q.1 == 100 + l)) = 0 from rfl, Nat.mul_zero, Nat.zero_mul] at this
  exact this
def tbs (K : Nat → Nat) (l : Nat) (t : Nat) : Nat := sm (fun t => if bit K t l = true then 2 ^ t else 0) t
set_option maxRecDepth 100000 in
theorem sp_countsG (h : rowR 20869371 mem K) (hW : WF K) (hg : gapM mem (gps K)) {l : Nat} (hl : l < K 39) : Cd yX9_countsOf cX9_countsOf 5 (some .int) 2 47 [pR 10009909 0, pI (nI l), pI 8] mem (some (pI (nI (gla K l).length))) mem := by
  have h16 := hW.2.2.2.2.1
  have hn16 := hW.2.2.2.1
  have hgl := gps_len hW
  obtain ⟨g1, g2⟩ := hg
  have lp : ∀ j k, k + j = (gps K).length → PR cX9_countsOf RX9 5 2 47 66 [some (pR 10009909 0), some (pI (nI l)), some (pI 8), some (pI (nI (((gps K).take k).filter (fun q => q.1 == 100 + l)).length)), some (pI (nI k))] [] mem (pm_RX cX9_countsOf (some .int) (fun r' m' => r' = some (pI (nI (gla K l).length)) ∧ m' = mem)) := by
    intro j
    induction j with
    | zero =>
      intro k hj
      have e : k = (gps K).length := by omega
      subst e
      rw [List.take_length, gps_fil hW hl]
      refine pr_iload 68 dX9_countsOf_66 rfl rfl ?_
      refine pr_aload_n 69 dX9_countsOf_68 rfl rfl rfl ?_
      refine pr_getI 72 dX9_countsOf_69 fX9_227 rfl ?_
      rw [g1]
      refine pr_icmp_ge 106 75 dX9_countsOf_72 rfl rfl (fun c_72 => ?_) (fun c_72 => absurd (Int32.le_refl _) (c_72))
      refine pr_iload_n 107 dX9_countsOf_106 rfl rfl rfl ?_
      refine pr_ireturn dX9_countsOf_107 rfl ?_
      exact ⟨rfl, rfl⟩
    | succ j ih =>
      intro k hj
      obtain ⟨q, hq⟩ : ∃ q, (gps K)[k]? = some q := ⟨_, List.getElem?_eq_getElem (by omega)⟩
      obtain ⟨q1, q2, q3⟩ := g2 k q hq
      obtain ⟨p1, p2, p3⟩ := gps_pl hW q (List.mem_of_getElem? hq)
      have hex : (gps K).take (k + 1) = (gps K).take k ++ [q] := by
        rw [List.take_add_one, hq]; rfl
      refine pr_iload 68 dX9_countsOf_66 rfl rfl ?_
      refine pr_aload_n 69 dX9_countsOf_68 rfl rfl rfl ?_
      refine pr_getI 72 dX9_countsOf_69 fX9_227 rfl ?_
      rw [g1]
      refine pr_icmp_ge 106 75 dX9_countsOf_72 rfl rfl (fun c_72 => absurd (c_72) (nI_ge (by omega) (by omega))) (fun c_72 => ?_)
      refine pr_iload_n 76 dX9_countsOf_75 rfl rfl rfl ?_
      refine pr_bipush (8) 78 dX9_countsOf_76 (by decide) rfl ?_
      refine pr_icmp_ne 106 81 dX9_countsOf_78 rfl rfl (fun c_78 => absurd (rfl) (c_78)) (fun c_78 => ?_)
      refine pr_aload_n 82 dX9_countsOf_81 rfl rfl rfl ?_
      refine pr_getR0 85 dX9_countsOf_82 fX9_107 rfl ?_
      refine pr_iconst (3) 86 dX9_countsOf_85 (by decide) rfl ?_
      refine pr_iload 88 dX9_countsOf_86 rfl rfl ?_
      refine pr_imul 89 dX9_countsOf_88 rfl ?_
      refine pr_iaload (3 * k) 90 dX9_countsOf_89 rfl rfl (ix_3 k) (by omega) rfl ?_
      rw [q1]
      refine pr_bipush (100) 92 dX9_countsOf_90 (by decide) rfl ?_
      refine pr_iload_n 93 dX9_countsOf_92 rfl rfl rfl ?_
      refine pr_iadd 94 dX9_countsOf_93 rfl ?_
      rw [show (100 : Int32) = nI 100 from rfl, nI_add]
      refine pr_icmp_ne 100 97 dX9_countsOf_94 rfl rfl (fun c_94 => ?_) (fun c_94 => ?_)
      · rw [nI_eq (by omega) (by omega)] at c_94
        refine pr_iinc 103 dX9_countsOf_100 rfl (by first | exact pm_inc _ | rfl) (pm_st_4 rfl rfl) rfl ?_
        refine pr_goto 66 dX9_countsOf_103 rfl ?_
        have := ih (k + 1) (by omega)
        rw [hex, List.filter_append, filter_no (a := [q]) (fun x hx => by rw [List.mem_singleton.mp hx]; simp [c_94]), List.append_nil] at this
        exact this
      · rw [nI_eq (by omega) (by omega)] at c_94
        refine pr_iinc 100 dX9_countsOf_97 rfl (by first | exact pm_inc _ | rfl) (pm_st_3 rfl rfl) rfl ?_
        refine pr_iinc 103 dX9_countsOf_100 rfl (by first | exact pm_inc _ | rfl) (pm_st_4 rfl rfl) rfl ?_
        refine pr_goto 66 dX9_countsOf_103 rfl ?_
        have := ih (k + 1) (by omega)
        rw [hex, List.filter_append, filter_all (a := [q]) (fun x hx => by rw [List.mem_singleton.mp hx]; simp [c_94]), List.length_append] at this
        exact this
  have ht : nI (K 40) ≤ 0 ↔ K 40 ≤ 0 := by rw [show (0 : Int32) = nI 0 from rfl, nI_leI (by omega) (by omega)]
  refine Cl.of (own := RX9) rfl rfl (Nat.le_of_ble_eq_true rfl) rfl ?_; show PR _ _ _ _ _ _ [some _, some _, some _, none, none] _ _ _
  refine pr_iconst (0) 1 dX9_countsOf_0 (by decide) rfl ?_
  refine pr_istore_n 2 dX9_countsOf_1 rfl (pm_st_3 rfl rfl) rfl ?_
  refine pr_iconst (0) 3 dX9_countsOf_2 (by decide) rfl ?_
  refine pr_istore 5 dX9_countsOf_3 (pm_st_4 rfl rfl) rfl ?_
  refine pr_iload 7 dX9_countsOf_5 rfl rfl ?_
  refine pr_aload_n 8 dX9_countsOf_7 rfl rfl rfl ?_
  refine pr_invD0 11 dX9_countsOf_8 vX9_173 mX9_trips (sp_X9_trips h) ⟨Nat.le_of_ble_eq_true rfl, Nat.le_of_ble_eq_true rfl⟩ (Nat.le_of_ble_eq_true rfl) rfl ?_
  refine pr_icmp_ge 63 14 dX9_countsOf_11 rfl rfl (fun c_11 => ?_) (fun c_11 => ?_)
  · refine pr_iconst (0) 64 dX9_countsOf_63 (by decide) rfl ?_
    refine pr_istore 66 dX9_countsOf_64 (pm_st_4 rfl rfl) rfl ?_
    exact lp (gps K).length 0 (by omega)
  · refine pr_iload_n 15 dX9_countsOf_14 rfl rfl rfl ?_
    refine pr_bipush (8) 17 dX9_countsOf_15 (by decide) rfl ?_
    refine pr_icmp_ge 63 20 dX9_countsOf_17 rfl rfl (fun c_17 => ?_) (fun c_17 => absurd (by decide) (c_17))
    refine pr_iconst (0) 64 dX9_countsOf_63 (by decide) rfl ?_
    refine pr_istore 66 dX9_countsOf_64 (pm_st_4 rfl rfl) rfl ?_
    exact lp (gps K).length 0 (by omega)
set_option maxRecDepth 100000 in
theorem sp_countsT (h : rowR 20869371 mem K) (hW : WF K) {l : Nat} (hl : l < K 39) : Cd yX9_countsOf cX9_countsOf 5 (some .int) 2 47 [pR 10009909 0, pI (nI l), pI 4] mem (some (pI (nI (tbs K l (K 40))))) mem := by
  have h16 := hW.2.2.2.2.1
  have hn16 := hW.2.2.2.1
  have fin : ∀ a4 : Option pm_v, PR cX9_countsOf RX9 5 2 47 63 [some (pR 10009909 0), some (pI (nI l)), some (pI 4), some (pI (nI (tbs K l (K 40)))), a4] [] mem (pm_RX cX9_countsOf (some .int) (fun r' m' => r' = some (pI (nI (tbs K l (K 40)))) ∧ m' = mem)) := by
    intro a4
    refine pr_iconst (0) 64 dX9_countsOf_63 (by decide) rfl ?_
    refine pr_istore 66 dX9_countsOf_64 (pm_st_4 rfl rfl) rfl ?_
    refine pr_iload 68 dX9_countsOf_66 rfl rfl ?_
    refine pr_aload_n 69 dX9_countsOf_68 rfl rfl rfl ?_
    refine pr_getI 72 dX9_countsOf_69 fX9_227 rfl ?_
    refine pr_icmp_ge 106 75 dX9_countsOf_72 rfl rfl (fun c_72 => ?_) (fun c_72 => ?_)
    · refine pr_iload_n 107 dX9_countsOf_106 rfl rfl rfl ?_
      refine pr_ireturn dX9_countsOf_107 rfl ?_
      exact ⟨rfl, rfl⟩
    · refine pr_iload_n 76 dX9_countsOf_75 rfl rfl rfl ?_
      refine pr_bipush (8) 78 dX9_countsOf_76 (by decide) rfl ?_
      refine pr_icmp_ne 106 81 dX9_countsOf_78 rfl rfl (fun c_78 => ?_) (fun c_78 => absurd (c_78) (by decide))
      refine pr_iload_n 107 dX9_countsOf_106 rfl rfl rfl ?_
      refine pr_ireturn dX9_countsOf_107 rfl ?_
      exact ⟨rfl, rfl⟩
  have lp : ∀ j t, t + j = K 40 → PR cX9_countsOf RX9 5 2 47 5 [some (pR 10009909 0), some (pI (nI l)), some (pI 4), some (pI (nI (tbs K l t))), some (pI (nI t))] [] mem (pm_RX cX9_countsOf (some .int) (fun r' m' => r' = some (pI (nI (tbs K l (K 40)))) ∧ m' = mem)) := by
    intro j
    induction j with
    | zero =>
      intro t hj
      have e : t = K 40 := by omega
      subst e
      refine pr_iload 7 dX9_countsOf_5 rfl rfl ?_
      refine pr_aload_n 8 dX9_countsOf_7 rfl rfl rfl ?_
      refine pr_invD0 11 dX9_countsOf_8 vX9_173 mX9_trips (sp_X9_trips h) ⟨Nat.le_of_ble_eq_true rfl, Nat.le_of_ble_eq_true rfl⟩ (Nat.le_of_ble_eq_true rfl) rfl ?_
      refine pr_icmp_ge 63 14 dX9_countsOf_11 rfl rfl (fun c_11 => ?_) (fun c_11 => absurd (Int32.le_refl _) (c_11))
      exact fin _
    | succ j ih =>
      intro t hj
      refine pr_iload 7 dX9_countsOf_5 rfl rfl ?_
      refine pr_aload_n 8 dX9_countsOf_7 rfl rfl rfl ?_
      refine pr_invD0 11 dX9_countsOf_8 vX9_173 mX9_trips (sp_X9_trips h) ⟨Nat.le_of_ble_eq_true rfl, Nat.le_of_ble_eq_true rfl⟩ (Nat.le_of_ble_eq_true rfl) rfl ?_
      refine pr_icmp_ge 63 14 dX9_countsOf_11 rfl rfl (fun c_11 => absurd (c_11) (nI_ge (by omega) (by omega))) (fun c_11 => ?_)
      refine pr_iload_n 15 dX9_countsOf_14 rfl rfl rfl ?_
      refine pr_bipush (8) 17 dX9_countsOf_15 (by decide) rfl ?_
      refine pr_icmp_ge 63 20 dX9_countsOf_17 rfl rfl (fun c_17 => absurd (c_17) (by decide)) (fun c_17 => ?_)
      refine pr_aload_n 21 dX9_countsOf_20 rfl rfl rfl ?_
      refine pr_iload 23 dX9_countsOf_21 rfl rfl ?_
      refine pr_iconst (5) 24 dX9_countsOf_23 (by decide) rfl ?_
      refine pr_invD2 27 dX9_countsOf_24 vX9_182 mX9_its (sp_its5 h t (by omega)) ⟨Nat.le_of_ble_eq_true rfl, Nat.le_of_ble_eq_true rfl⟩ (Nat.le_of_ble_eq_true rfl) rfl ?_
      refine pr_iload_n 28 dX9_countsOf_27 rfl rfl rfl ?_
      refine pr_ivsD2 31 dX9_countsOf_28 sX9_132 mX9_has (sp_X9_has _ l (by omega)) ⟨Nat.le_of_ble_eq_true rfl, Nat.le_of_ble_eq_true rfl⟩ (Nat.le_of_ble_eq_true rfl) rfl ?_
      refine pr_if_eq 57 34 dX9_countsOf_31 rfl rfl (fun c_31 => ?_) (fun c_31 => ?_)
      · have hb : ¬ bit K t l = true := fun z => by
          unfold bit at z
          rw [if_pos z] at c_31
          exact absurd c_31 (by decide)
        refine pr_iinc 60 dX9_countsOf_57 rfl (by first | exact pm_inc _ | rfl) (pm_st_4 rfl rfl) rfl ?_
        refine pr_goto 5 dX9_countsOf_60 rfl ?_
        have := ih (t + 1) (by omega)
        rw [tbs, sm, if_neg hb, Nat.add_zero] at this
        exact this
      · have hb : bit K t l = true := by
          unfold bit
          exact Decidable.byContradiction (fun z => c_31 (by rw [if_neg z]))
        refine pr_iload_n 35 dX9_countsOf_34 rfl rfl rfl ?_
        refine pr_iload_n 36 dX9_countsOf_35 rfl rfl rfl ?_
        refine pr_iconst (4) 37 dX9_countsOf_36 (by decide) rfl ?_
        refine pr_icmp_ne 47 40 dX9_countsOf_37 rfl rfl (fun c_37 => absurd (rfl) (c_37)) (fun c_37 => ?_)
        refine pr_iconst (1) 41 dX9_countsOf_40 (by decide) rfl ?_
        refine pr_iload 43 dX9_countsOf_41 rfl rfl ?_
        refine pr_ishl 44 dX9_countsOf_43 rfl ?_
        rw [nI_shl1 t (by omega)]
        refine pr_goto 55 dX9_countsOf_44 rfl ?_
        refine pr_iadd 56 dX9_countsOf_55 rfl ?_
        rw [nI_add]
        refine pr_istore_n 57 dX9_countsOf_56 rfl (pm_st_3 rfl rfl) rfl ?_
        refine pr_iinc 60 dX9_countsOf_57 rfl (by first | exact pm_inc _ | rfl) (pm_st_4 rfl rfl) rfl ?_
        refine pr_goto 5 dX9_countsOf_60 rfl ?_
        have := ih (t + 1) (by omega)
        rw [tbs, sm, if_pos hb] at this
        exact this
  refine Cl.of (own := RX9) rfl rfl (Nat.le_of_ble_eq_true rfl) rfl ?_; show PR _ _ _ _ _ _ [some _, some _, some _, none, none] _ _ _
  refine pr_iconst (0) 1 dX9_countsOf_0 (by decide) rfl ?_
  refine pr_istore_n 2 dX9_countsOf_1 rfl (pm_st_3 rfl rfl) rfl ?_
  refine pr_iconst (0) 3 dX9_countsOf_2 (by decide) rfl ?_
  refine pr_istore 5 dX9_countsOf_3 (pm_st_4 rfl rfl) rfl ?_
  exact lp (K 40) 0 (by omega)
set_option maxRecDepth 100000 in
theorem sp_countsP (h : rowR 20869371 mem K) (hW : WF K) (hw : WL K w lk M) (hm : mwR mem w lk M o) (hz : outZ w M o) {l : Nat} (hl : l < M) (hlk : lk l = l) : Cd yX9_countsOf cX9_countsOf 5 (some .int) 2 47 [pR 10009909 0, pI (nI l), pI 5] mem (some (pI (nI (sm (fun t => ptl K w lk t l) (K 40))))) mem := by
  have h16 := hW.2.2.2.2.1
  have hn16 := hW.2.2.2.1
  have hM := hw.1
  have fin : ∀ a4 : Option pm_v, PR cX9_countsOf RX9 5 2 47 63 [some (pR 10009909 0), some (pI (nI l)), some (pI 5), some (pI (nI (sm (fun t => ptl K w lk t l) (K 40)))), a4] [] mem (pm_RX cX9_countsOf (some .int) (fun r' m' => r' = some (pI (nI (sm (fun t => ptl K w lk t l) (K 40)))) ∧ m' = mem)) := by
    intro a4
    refine pr_iconst (0) 64 dX9_countsOf_63 (by decide) rfl ?_
    refine pr_istore 66 dX9_countsOf_64 (pm_st_4 rfl rfl) rfl ?_
    refine pr_iload 68 dX9_countsOf_66 rfl rfl ?_
    refine pr_aload_n 69 dX9_countsOf_68 rfl rfl rfl ?_
    refine pr_getI 72 dX9_countsOf_69 fX9_227 rfl ?_
    refine pr_icmp_ge 106 75 dX9_countsOf_72 rfl rfl (fun c_72 => ?_) (fun c_72 => ?_)
    · refine pr_iload_n 107 dX9_countsOf_106 rfl rfl rfl ?_
      refine pr_ireturn dX9_countsOf_107 rfl ?_
      exact ⟨rfl, rfl⟩
    · refine pr_iload_n 76 dX9_countsOf_75 rfl rfl rfl ?_
      refine pr_bipush (8) 78 dX9_countsOf_76 (by decide) rfl ?_
      refine pr_icmp_ne 106 81 dX9_countsOf_78 rfl rfl (fun c_78 => ?_) (fun c_78 => absurd (c_78) (by decide))
      refine pr_iload_n 107 dX9_countsOf_106 rfl rfl rfl ?_
      refine pr_ireturn dX9_countsOf_107 rfl ?_
      exact ⟨rfl, rfl⟩
  have lp : ∀ j t, t + j = K 40 → PR cX9_countsOf RX9 5 2 47 5 [some (pR 10009909 0), some (pI (nI l)), some (pI 5), some (pI (nI (sm (fun t => ptl K w lk t l) t))), some (pI (nI t))] [] mem (pm_RX cX9_countsOf (some .int) (fun r' m' => r' = some (pI (nI (sm (fun t => ptl K w lk t l) (K 40)))) ∧ m' = mem)) := by
    intro j
    induction j with
    | zero =>
      intro t hj
      have e : t = K 40 := by omega
      subst e
      refine pr_iload 7 dX9_countsOf_5 rfl rfl ?_
      refine pr_aload_n 8 dX9_countsOf_7 rfl rfl rfl ?_
      refine pr_invD0 11 dX9_countsOf_8 vX9_173 mX9_trips (sp_X9_trips h) ⟨Nat.le_of_ble_eq_true rfl, Nat.le_of_ble_eq_true rfl⟩ (Nat.le_of_ble_eq_true rfl) rfl ?_
      refine pr_icmp_ge 63 14 dX9_countsOf_11 rfl rfl (fun c_11 => ?_) (fun c_11 => absurd (Int32.le_refl _) (c_11))
      exact fin _
    | succ j ih =>
      intro t hj
      refine pr_iload 7 dX9_countsOf_5 rfl rfl ?_
      refine pr_aload_n 8 dX9_countsOf_7 rfl rfl rfl ?_
      refine pr_invD0 11 dX9_countsOf_8 vX9_173 mX9_trips (sp_X9_trips h) ⟨Nat.le_of_ble_eq_true rfl, Nat.le_of_ble_eq_true rfl⟩ (Nat.le_of_ble_eq_true rfl) rfl ?_
      refine pr_icmp_ge 63 14 dX9_countsOf_11 rfl rfl (fun c_11 => absurd (c_11) (nI_ge (by omega) (by omega))) (fun c_11 => ?_)
      refine pr_iload_n 15 dX9_countsOf_14 rfl rfl rfl ?_
      refine pr_bipush (8) 17 dX9_countsOf_15 (by decide) rfl ?_
      refine pr_icmp_ge 63 20 dX9_countsOf_17 rfl rfl (fun c_17 => absurd (c_17) (by decide)) (fun c_17 => ?_)
      refine pr_aload_n 21 dX9_countsOf_20 rfl rfl rfl ?_
      refine pr_iload 23 dX9_countsOf_21 rfl rfl ?_
      refine pr_iconst (5) 24 dX9_countsOf_23 (by decide) rfl ?_
      refine pr_invD2 27 dX9_countsOf_24 vX9_182 mX9_its (sp_its5 h t (by omega)) ⟨Nat.le_of_ble_eq_true rfl, Nat.le_of_ble_eq_true rfl⟩ (Nat.le_of_ble_eq_true rfl) rfl ?_
      refine pr_iload_n 28 dX9_countsOf_27 rfl rfl rfl ?_
      refine pr_ivsD2 31 dX9_countsOf_28 sX9_132 mX9_has (sp_X9_has _ l (by omega)) ⟨Nat.le_of_ble_eq_true rfl, Nat.le_of_ble_eq_true rfl⟩ (Nat.le_of_ble_eq_true rfl) rfl ?_
      refine pr_if_eq 57 34 dX9_countsOf_31 rfl rfl (fun c_31 => ?_) (fun c_31 => ?_)
      · have hb : ¬ (K (106 + 6 * t)).testBit l = true := fun z => by
          rw [if_pos z] at c_31
          exact absurd c_31 (by decide)
        refine pr_iinc 60 dX9_countsOf_57 rfl (by first | exact pm_inc _ | rfl) (pm_st_4 rfl rfl) rfl ?_
        refine pr_goto 5 dX9_countsOf_60 rfl ?_
        have := ih (t + 1) (by omega)
        rw [sm, show ptl K w lk t l = 0 by rw [ptl, hlk, if_neg hb], Nat.add_zero] at this
        exact this
      · refine pr_iload_n 35 dX9_countsOf_34 rfl rfl rfl ?_
        refine pr_iload_n 36 dX9_countsOf_35 rfl rfl rfl ?_
        refine pr_iconst (4) 37 dX9_countsOf_36 (by decide) rfl ?_
        refine pr_icmp_ne 47 40 dX9_countsOf_37 rfl rfl (fun c_37 => ?_) (fun c_37 => absurd (c_37) (by decide))
        refine pr_aload_n 48 dX9_countsOf_47 rfl rfl rfl ?_
        refine pr_iload 50 dX9_countsOf_48 rfl rfl ?_
        refine pr_iload_n 51 dX9_countsOf_50 rfl rfl rfl ?_
        refine pr_invD2 54 dX9_countsOf_51 vX9_186 mX9_partOf (sp_X9_partOf h hW hw hm hz (t := t) (l := l) (by omega) hl) ⟨Nat.le_of_ble_eq_true rfl, Nat.le_of_ble_eq_true rfl⟩ (Nat.le_of_ble_eq_true rfl) rfl ?_
        refine pr_l2i 55 dX9_countsOf_54 rfl ?_
        rw [lN_i]
        refine pr_iadd 56 dX9_countsOf_55 rfl ?_
        rw [nI_add]
        refine pr_istore_n 57 dX9_countsOf_56 rfl (pm_st_3 rfl rfl) rfl ?_
        refine pr_iinc 60 dX9_countsOf_57 rfl (by first | exact pm_inc _ | rfl) (pm_st_4 rfl rfl) rfl ?_
        refine pr_goto 5 dX9_countsOf_60 rfl ?_
        exact ih (t + 1) (by omega)
  refine Cl.of (own := RX9) rfl rfl (Nat.le_of_ble_eq_true rfl) rfl ?_; show PR _ _ _ _ _ _ [some _, some _, some _, none, none] _ _ _
  refine pr_iconst (0) 1 dX9_countsOf_0 (by decide) rfl ?_
  refine pr_istore_n 2 dX9_countsOf_1 rfl (pm_st_3 rfl rfl) rfl ?_
  refine pr_iconst (0) 3 dX9_countsOf_2 (by decide) rfl ?_
  refine pr_istore 5 dX9_countsOf_3 (pm_st_4 rfl rfl) rfl ?_
  exact lp (K 40) 0 (by omega)
end MQQ
