/-! the reference: a text -/
def RB (s : RS) : Prop := s.ln < 1000 ∧ s.K 40 ≤ 16 ∧ s.K 38 ≤ 4 ∧ s.K 37 ≤ 12 ∧ s.K 39 ≤ 16 ∧ ∀ q, q < 12 → s.K (41 + q) ≤ 99 ∧ s.K (53 + q) ≤ 99
theorem fld_k {s : RS} {k v : Nat} (hk : k < 2) : fld s k v = .error 1 := by
  have hn : ∀ lo hi, numF lo hi k v = .error 1 := fun lo hi => by rw [numF, if_neg (by omega)]
  have ht : ∀ c, tolF c k v = .error 1 := fun c => by rw [tolF, if_neg (by omega)]
  unfold fld
  simp only [hn, ht]
  repeat' split
  all_goals first | rfl | omega
theorem stp_k {s s' : RS} {k v : Nat} (h : stp s k v = .ok s') : 2 ≤ k := by
  rcases Nat.lt_or_ge k 2 with hk | hk
  · exfalso
    unfold stp at h
    rw [fld_k hk] at h
    repeat' split at h
    all_goals first | omega | (cases h)
  · exact hk
/-- places only grow -/
theorem Rt.le {B : Nat → Nat} {T : Nat} {s s' : RS} {p p' : Nat} (h : Rt B T s p s' p') (hp : p ≤ T) : p ≤ p' ∧ p' ≤ T :=
  h.2 (fun _ q => p ≤ q ∧ q ≤ T) (fun s q s' hq h0 h1 => by
    have := tN_bd hq.2 (stp_k h1)
    omega) ⟨Nat.le_refl _, hp⟩
section MTX
variable {mem mem0 : pm_M} {T p : Nat} {B : Nat → Nat} {s : RS}
set_option maxRecDepth 100000 in
theorem sp_X9_readLine (hx : txM mem0 T B) (h : mtk mem0 B T p) (hp : p ≤ T) (hr : rowR 20869372 mem0 s.K) (hw : s.w = 0) (hb : RB s) (hs0 : ¬ (tK B T p = 0 ∧ T ≤ 800)) : Cl yX9_readLine cX9_readLine 2 (some .boolean) 5 117 [pR 10009909 0, pI (if s.ln = 0 then 1 else 0)] mem0 (fun r mem => ∃ x, r = some (pI x) ∧ LQ mem0 B T s p x mem) := by
  have hB := hx.2.2.2
  obtain ⟨-, b1, b2, b3, b4, b5⟩ := hb
  have bad : (tK B T p = 0 ∨ ¬ tK B T p = 0 ∧ stp s (tK B T p) (tV B T p) = .error 1) → ∀ (mem1 : pm_M), badF mem0 mem1 ∧ mem1.2.1 = mem0.2.1 ∧ mem1.1 10009909 0 8 = nI (if msort (tK B T p) T = 1 then 1 else 1) ∧ mem1.1 10009909 0 9 = nI (tS B T p) → LQ mem0 B T s p 0 mem1 := by
    intro hc mem1 h1
    refine ⟨h1.1.ln, Or.inr ⟨rfl, 1, tS B T p, ?_, ?_, h1.2.2.2⟩⟩
    · rcases hc with z | z
      · exact Rd.cut z (fun y => hs0 ⟨z, y.2⟩)
      · exact Rd.bad z.1 z.2
    · have := h1.2.2.1
      rw [ite_self] at this
      exact this
  refine Cl.of (own := RX9) rfl rfl (Nat.le_of_ble_eq_true rfl) rfl ?_; show PR _ _ _ _ _ _ [some _, some _] _ _ _
  by_cases hl : s.ln = 0
  · rw [if_pos hl]
    by_cases k5 : tK B T p = 5
    · refine pr_iload_n 1 dX9_readLine_0 rfl rfl rfl ?_
      refine pr_if_eq 33 4 dX9_readLine_1 rfl rfl (fun c_1 => absurd (c_1) (by decide)) (fun c_1 => ?_)
      refine pr_aload_n 5 dX9_readLine_4 rfl rfl rfl ?_
      refine pr_bipush (100) 7 dX9_readLine_5 (by decide) rfl ?_
      refine pr_bipush (101) 9 dX9_readLine_7 (by decide) rfl ?_
      refine pr_bipush (115) 11 dX9_readLine_9 (by decide) rfl ?_
      refine pr_bipush (107) 13 dX9_readLine_11 (by decide) rfl ?_
      refine pr_iconst (0) 14 dX9_readLine_13 (by decide) rfl ?_
      refine pr_invD5 17 dX9_readLine_14 vX9_136 mX9_is (sp_is_desk h hB) ⟨Nat.le_of_ble_eq_true rfl, Nat.le_of_ble_eq_true rfl⟩ (Nat.le_of_ble_eq_true rfl) rfl ?_
      refine pr_if_eq 27 20 dX9_readLine_17 rfl rfl (fun c_17 => absurd (c_17) (by rw [if_pos k5]; decide)) (fun c_17 => ?_)
      refine pr_aload_n 21 dX9_readLine_20 rfl rfl rfl ?_
      refine pr_invX0 24 dX9_readLine_21 vX9_144 mX9_readDesk (sp_X9_readDesk hx h hp hr hw hl k5) ⟨Nat.le_of_ble_eq_true rfl, Nat.le_of_ble_eq_true rfl⟩ (Nat.le_of_ble_eq_true rfl) rfl (fun x1 mem1 h1 => ?_)
      refine pr_goto 32 dX9_readLine_24 rfl ?_
      refine pr_zreturn dX9_readLine_32 rfl (by rcases h1.2 with z | z; exact Or.inr z.1; exact Or.inl z.1) ?_
      exact ⟨x1, rfl, h1⟩
    · refine pr_iload_n 1 dX9_readLine_0 rfl rfl rfl ?_
      refine pr_if_eq 33 4 dX9_readLine_1 rfl rfl (fun c_1 => absurd (c_1) (by decide)) (fun c_1 => ?_)
      refine pr_aload_n 5 dX9_readLine_4 rfl rfl rfl ?_
      refine pr_bipush (100) 7 dX9_readLine_5 (by decide) rfl ?_
      refine pr_bipush (101) 9 dX9_readLine_7 (by decide) rfl ?_
      refine pr_bipush (115) 11 dX9_readLine_9 (by decide) rfl ?_
      refine pr_bipush (107) 13 dX9_readLine_11 (by decide) rfl ?_
      refine pr_iconst (0) 14 dX9_readLine_13 (by decide) rfl ?_
      refine pr_invD5 17 dX9_readLine_14 vX9_136 mX9_is (sp_is_desk h hB) ⟨Nat.le_of_ble_eq_true rfl, Nat.le_of_ble_eq_true rfl⟩ (Nat.le_of_ble_eq_true rfl) rfl ?_
      refine pr_if_eq 27 20 dX9_readLine_17 rfl rfl (fun c_17 => ?_) (fun c_17 => absurd (by rw [if_neg k5]) (c_17))
      refine pr_aload_n 28 dX9_readLine_27 rfl rfl rfl ?_
      refine pr_iconst (1) 29 dX9_readLine_28 (by decide) rfl ?_
      refine pr_invDR1 32 dX9_readLine_29 vX9_110 mX9_bad (sp_X9_bad h 1) ⟨Nat.le_of_ble_eq_true rfl, Nat.le_of_ble_eq_true rfl⟩ (Nat.le_of_ble_eq_true rfl) rfl (fun mem1 h1 => ?_)
      refine pr_zreturn dX9_readLine_32 rfl (by first | exact Or.inl rfl | exact Or.inr rfl) ?_
      refine ⟨0, rfl, bad ?_ mem1 h1⟩
      by_cases k0 : tK B T p = 0
      · exact Or.inl k0
      · exact Or.inr ⟨k0, by rw [stp, if_pos hw, if_pos (by omega)]⟩
  · rw [if_neg hl]
    rcases (by omega : tK B T p = 6 ∨ tK B T p = 7 ∨ tK B T p = 8 ∨ tK B T p = 9 ∨ ¬ (tK B T p = 6 ∨ tK B T p = 7 ∨ tK B T p = 8 ∨ tK B T p = 9)) with k | k | k | k | k
    · refine pr_iload_n 1 dX9_readLine_0 rfl rfl rfl ?_
      refine pr_if_eq 33 4 dX9_readLine_1 rfl rfl (fun c_1 => ?_) (fun c_1 => absurd (rfl) (c_1))
      refine pr_aload_n 34 dX9_readLine_33 rfl rfl rfl ?_
      refine pr_bipush (112) 36 dX9_readLine_34 (by decide) rfl ?_
      refine pr_bipush (108) 38 dX9_readLine_36 (by decide) rfl ?_
      refine pr_bipush (97) 40 dX9_readLine_38 (by decide) rfl ?_
      refine pr_bipush (99) 42 dX9_readLine_40 (by decide) rfl ?_
      refine pr_bipush (101) 44 dX9_readLine_42 (by decide) rfl ?_
      refine pr_invD5 47 dX9_readLine_44 vX9_136 mX9_is (sp_is_place h hB) ⟨Nat.le_of_ble_eq_true rfl, Nat.le_of_ble_eq_true rfl⟩ (Nat.le_of_ble_eq_true rfl) rfl ?_
      refine pr_if_eq 55 50 dX9_readLine_47 rfl rfl (fun c_47 => absurd (c_47) (by rw [if_pos k]; decide)) (fun c_47 => ?_)
      refine pr_aload_n 51 dX9_readLine_50 rfl rfl rfl ?_
      refine pr_invX0 54 dX9_readLine_51 vX9_148 mX9_readPlace (sp_X9_readPlace hx h hp hr hw hl k b3) ⟨Nat.le_of_ble_eq_true rfl, Nat.le_of_ble_eq_true rfl⟩ (Nat.le_of_ble_eq_true rfl) rfl (fun x1 mem1 h1 => ?_)
      refine pr_zreturn dX9_readLine_54 rfl (by rcases h1.2 with z | z; exact Or.inr z.1; exact Or.inl z.1) ?_
      exact ⟨x1, rfl, h1⟩
    · refine pr_iload_n 1 dX9_readLine_0 rfl rfl rfl ?_
      refine pr_if_eq 33 4 dX9_readLine_1 rfl rfl (fun c_1 => ?_) (fun c_1 => absurd (rfl) (c_1))
      refine pr_aload_n 34 dX9_readLine_33 rfl rfl rfl ?_
      refine pr_bipush (112) 36 dX9_readLine_34 (by decide) rfl ?_
      refine pr_bipush (108) 38 dX9_readLine_36 (by decide) rfl ?_
      refine pr_bipush (97) 40 dX9_readLine_38 (by decide) rfl ?_
      refine pr_bipush (99) 42 dX9_readLine_40 (by decide) rfl ?_
      refine pr_bipush (101) 44 dX9_readLine_42 (by decide) rfl ?_
      refine pr_invD5 47 dX9_readLine_44 vX9_136 mX9_is (sp_is_place h hB) ⟨Nat.le_of_ble_eq_true rfl, Nat.le_of_ble_eq_true rfl⟩ (Nat.le_of_ble_eq_true rfl) rfl ?_
      refine pr_if_eq 55 50 dX9_readLine_47 rfl rfl (fun c_47 => ?_) (fun c_47 => absurd (by rw [if_neg (by omega)]) (c_47))
      refine pr_aload_n 56 dX9_readLine_55 rfl rfl rfl ?_
      refine pr_bipush (116) 58 dX9_readLine_56 (by decide) rfl ?_
      refine pr_bipush (114) 60 dX9_readLine_58 (by decide) rfl ?_
      refine pr_bipush (117) 62 dX9_readLine_60 (by decide) rfl ?_
      refine pr_bipush (99) 64 dX9_readLine_62 (by decide) rfl ?_
      refine pr_bipush (107) 66 dX9_readLine_64 (by decide) rfl ?_
      refine pr_invD5 69 dX9_readLine_66 vX9_136 mX9_is (sp_is_truck h hB) ⟨Nat.le_of_ble_eq_true rfl, Nat.le_of_ble_eq_true rfl⟩ (Nat.le_of_ble_eq_true rfl) rfl ?_
      refine pr_if_eq 77 72 dX9_readLine_69 rfl rfl (fun c_69 => absurd (c_69) (by rw [if_pos k]; decide)) (fun c_69 => ?_)
      refine pr_aload_n 73 dX9_readLine_72 rfl rfl rfl ?_
      refine pr_invX0 76 dX9_readLine_73 vX9_151 mX9_readTruck (sp_X9_readTruck hx h hp hr hw hl k b2) ⟨Nat.le_of_ble_eq_true rfl, Nat.le_of_ble_eq_true rfl⟩ (Nat.le_of_ble_eq_true rfl) rfl (fun x1 mem1 h1 => ?_)
      refine pr_zreturn dX9_readLine_76 rfl (by rcases h1.2 with z | z; exact Or.inr z.1; exact Or.inl z.1) ?_
      exact ⟨x1, rfl, h1⟩
    · refine pr_iload_n 1 dX9_readLine_0 rfl rfl rfl ?_
      refine pr_if_eq 33 4 dX9_readLine_1 rfl rfl (fun c_1 => ?_) (fun c_1 => absurd (rfl) (c_1))
      refine pr_aload_n 34 dX9_readLine_33 rfl rfl rfl ?_
      refine pr_bipush (112) 36 dX9_readLine_34 (by decide) rfl ?_
      refine pr_bipush (108) 38 dX9_readLine_36 (by decide) rfl ?_
      refine pr_bipush (97) 40 dX9_readLine_38 (by decide) rfl ?_
      refine pr_bipush (99) 42 dX9_readLine_40 (by decide) rfl ?_
      refine pr_bipush (101) 44 dX9_readLine_42 (by decide) rfl ?_
      refine pr_invD5 47 dX9_readLine_44 vX9_136 mX9_is (sp_is_place h hB) ⟨Nat.le_of_ble_eq_true rfl, Nat.le_of_ble_eq_true rfl⟩ (Nat.le_of_ble_eq_true rfl) rfl ?_
      refine pr_if_eq 55 50 dX9_readLine_47 rfl rfl (fun c_47 => ?_) (fun c_47 => absurd (by rw [if_neg (by omega)]) (c_47))
      refine pr_aload_n 56 dX9_readLine_55 rfl rfl rfl ?_
      refine pr_bipush (116) 58 dX9_readLine_56 (by decide) rfl ?_
      refine pr_bipush (114) 60 dX9_readLine_58 (by decide) rfl ?_
      refine pr_bipush (117) 62 dX9_readLine_60 (by decide) rfl ?_
      refine pr_bipush (99) 64 dX9_readLine_62 (by decide) rfl ?_
      refine pr_bipush (107) 66 dX9_readLine_64 (by decide) rfl ?_
      refine pr_invD5 69 dX9_readLine_66 vX9_136 mX9_is (sp_is_truck h hB) ⟨Nat.le_of_ble_eq_true rfl, Nat.le_of_ble_eq_true rfl⟩ (Nat.le_of_ble_eq_true rfl) rfl ?_
      refine pr_if_eq 77 72 dX9_readLine_69 rfl rfl (fun c_69 => ?_) (fun c_69 => absurd (by rw [if_neg (by omega)]) (c_69))
      refine pr_aload_n 78 dX9_readLine_77 rfl rfl rfl ?_
      refine pr_bipush (108) 80 dX9_readLine_78 (by decide) rfl ?_
      refine pr_bipush (111) 82 dX9_readLine_80 (by decide) rfl ?_
      refine pr_bipush (97) 84 dX9_readLine_82 (by decide) rfl ?_
      refine pr_bipush (100) 86 dX9_readLine_84 (by decide) rfl ?_
      refine pr_iconst (0) 87 dX9_readLine_86 (by decide) rfl ?_
      refine pr_invD5 90 dX9_readLine_87 vX9_136 mX9_is (sp_is_load h hB) ⟨Nat.le_of_ble_eq_true rfl, Nat.le_of_ble_eq_true rfl⟩ (Nat.le_of_ble_eq_true rfl) rfl ?_
      refine pr_if_eq 98 93 dX9_readLine_90 rfl rfl (fun c_90 => absurd (c_90) (by rw [if_pos k]; decide)) (fun c_90 => ?_)
      refine pr_aload_n 94 dX9_readLine_93 rfl rfl rfl ?_
      refine pr_invX0 97 dX9_readLine_94 vX9_154 mX9_readLoad (sp_X9_readLoad hx h hp hr hw hl k b4 b3) ⟨Nat.le_of_ble_eq_true rfl, Nat.le_of_ble_eq_true rfl⟩ (Nat.le_of_ble_eq_true rfl) rfl (fun x1 mem1 h1 => ?_)
      refine pr_zreturn dX9_readLine_97 rfl (by rcases h1.2 with z | z; exact Or.inr z.1; exact Or.inl z.1) ?_
      exact ⟨x1, rfl, h1⟩
    · refine pr_iload_n 1 dX9_readLine_0 rfl rfl rfl ?_
      refine pr_if_eq 33 4 dX9_readLine_1 rfl rfl (fun c_1 => ?_) (fun c_1 => absurd (rfl) (c_1))
      refine pr_aload_n 34 dX9_readLine_33 rfl rfl rfl ?_
      refine pr_bipush (112) 36 dX9_readLine_34 (by decide) rfl ?_
      refine pr_bipush (108) 38 dX9_readLine_36 (by decide) rfl ?_
      refine pr_bipush (97) 40 dX9_readLine_38 (by decide) rfl ?_
      refine pr_bipush (99) 42 dX9_readLine_40 (by decide) rfl ?_
      refine pr_bipush (101) 44 dX9_readLine_42 (by decide) rfl ?_
      refine pr_invD5 47 dX9_readLine_44 vX9_136 mX9_is (sp_is_place h hB) ⟨Nat.le_of_ble_eq_true rfl, Nat.le_of_ble_eq_true rfl⟩ (Nat.le_of_ble_eq_true rfl) rfl ?_
      refine pr_if_eq 55 50 dX9_readLine_47 rfl rfl (fun c_47 => ?_) (fun c_47 => absurd (by rw [if_neg (by omega)]) (c_47))
      refine pr_aload_n 56 dX9_readLine_55 rfl rfl rfl ?_
      refine pr_bipush (116) 58 dX9_readLine_56 (by decide) rfl ?_
      refine pr_bipush (114) 60 dX9_readLine_58 (by decide) rfl ?_
      refine pr_bipush (117) 62 dX9_readLine_60 (by decide) rfl ?_
      refine pr_bipush (99) 64 dX9_readLine_62 (by decide) rfl ?_
      refine pr_bipush (107) 66 dX9_readLine_64 (by decide) rfl ?_
      refine pr_invD5 69 dX9_readLine_66 vX9_136 mX9_is (sp_is_truck h hB) ⟨Nat.le_of_ble_eq_true rfl, Nat.le_of_ble_eq_true rfl⟩ (Nat.le_of_ble_eq_true rfl) rfl ?_
      refine pr_if_eq 77 72 dX9_readLine_69 rfl rfl (fun c_69 => ?_) (fun c_69 => absurd (by rw [if_neg (by omega)]) (c_69))
      refine pr_aload_n 78 dX9_readLine_77 rfl rfl rfl ?_
      refine pr_bipush (108) 80 dX9_readLine_78 (by decide) rfl ?_
      refine pr_bipush (111) 82 dX9_readLine_80 (by decide) rfl ?_
      refine pr_bipush (97) 84 dX9_readLine_82 (by decide) rfl ?_
      refine pr_bipush (100) 86 dX9_readLine_84 (by decide) rfl ?_
      refine pr_iconst (0) 87 dX9_readLine_86 (by decide) rfl ?_
      refine pr_invD5 90 dX9_readLine_87 vX9_136 mX9_is (sp_is_load h hB) ⟨Nat.le_of_ble_eq_true rfl, Nat.le_of_ble_eq_true rfl⟩ (Nat.le_of_ble_eq_true rfl) rfl ?_
      refine pr_if_eq 98 93 dX9_readLine_90 rfl rfl (fun c_90 => ?_) (fun c_90 => absurd (by rw [if_neg (by omega)]) (c_90))
      refine pr_aload_n 99 dX9_readLine_98 rfl rfl rfl ?_
      refine pr_bipush (116) 101 dX9_readLine_99 (by decide) rfl ?_
      refine pr_bipush (114) 103 dX9_readLine_101 (by decide) rfl ?_
      refine pr_bipush (105) 105 dX9_readLine_103 (by decide) rfl ?_
      refine pr_bipush (112) 107 dX9_readLine_105 (by decide) rfl ?_
      refine pr_iconst (0) 108 dX9_readLine_107 (by decide) rfl ?_
      refine pr_invD5 111 dX9_readLine_108 vX9_136 mX9_is (sp_is_trip h hB) ⟨Nat.le_of_ble_eq_true rfl, Nat.le_of_ble_eq_true rfl⟩ (Nat.le_of_ble_eq_true rfl) rfl ?_
      refine pr_if_eq 121 114 dX9_readLine_111 rfl rfl (fun c_111 => absurd (c_111) (by rw [if_pos k]; decide)) (fun c_111 => ?_)
      refine pr_aload_n 115 dX9_readLine_114 rfl rfl rfl ?_
      refine pr_invX0 118 dX9_readLine_115 vX9_157 mX9_readTrip (sp_X9_readTrip hx h hp hr hw hl k b1 b2 b3 b4 b5) ⟨Nat.le_of_ble_eq_true rfl, Nat.le_of_ble_eq_true rfl⟩ (Nat.le_of_ble_eq_true rfl) rfl (fun x1 mem1 h1 => ?_)
      refine pr_goto 126 dX9_readLine_118 rfl ?_
      refine pr_zreturn dX9_readLine_126 rfl (by rcases h1.2 with z | z; exact Or.inr z.1; exact Or.inl z.1) ?_
      exact ⟨x1, rfl, h1⟩
    · refine pr_iload_n 1 dX9_readLine_0 rfl rfl rfl ?_
      refine pr_if_eq 33 4 dX9_readLine_1 rfl rfl (fun c_1 => ?_) (fun c_1 => absurd (rfl) (c_1))
      refine pr_aload_n 34 dX9_readLine_33 rfl rfl rfl ?_
      refine pr_bipush (112) 36 dX9_readLine_34 (by decide) rfl ?_
      refine pr_bipush (108) 38 dX9_readLine_36 (by decide) rfl ?_
      refine pr_bipush (97) 40 dX9_readLine_38 (by decide) rfl ?_
      refine pr_bipush (99) 42 dX9_readLine_40 (by decide) rfl ?_
      refine pr_bipush (101) 44 dX9_readLine_42 (by decide) rfl ?_
      refine pr_invD5 47 dX9_readLine_44 vX9_136 mX9_is (sp_is_place h hB) ⟨Nat.le_of_ble_eq_true rfl, Nat.le_of_ble_eq_true rfl⟩ (Nat.le_of_ble_eq_true rfl) rfl ?_
      refine pr_if_eq 55 50 dX9_readLine_47 rfl rfl (fun c_47 => ?_) (fun c_47 => absurd (by rw [if_neg (by omega)]) (c_47))
      refine pr_aload_n 56 dX9_readLine_55 rfl rfl rfl ?_
      refine pr_bipush (116) 58 dX9_readLine_56 (by decide) rfl ?_
      refine pr_bipush (114) 60 dX9_readLine_58 (by decide) rfl ?_
      refine pr_bipush (117) 62 dX9_readLine_60 (by decide) rfl ?_
      refine pr_bipush (99) 64 dX9_readLine_62 (by decide) rfl ?_
      refine pr_bipush (107) 66 dX9_readLine_64 (by decide) rfl ?_
      refine pr_invD5 69 dX9_readLine_66 vX9_136 mX9_is (sp_is_truck h hB) ⟨Nat.le_of_ble_eq_true rfl, Nat.le_of_ble_eq_true rfl⟩ (Nat.le_of_ble_eq_true rfl) rfl ?_
      refine pr_if_eq 77 72 dX9_readLine_69 rfl rfl (fun c_69 => ?_) (fun c_69 => absurd (by rw [if_neg (by omega)]) (c_69))
      refine pr_aload_n 78 dX9_readLine_77 rfl rfl rfl ?_
      refine pr_bipush (108) 80 dX9_readLine_78 (by decide) rfl ?_
      refine pr_bipush (111) 82 dX9_readLine_80 (by decide) rfl ?_
      refine pr_bipush (97) 84 dX9_readLine_82 (by decide) rfl ?_
      refine pr_bipush (100) 86 dX9_readLine_84 (by decide) rfl ?_
      refine pr_iconst (0) 87 dX9_readLine_86 (by decide) rfl ?_
      refine pr_invD5 90 dX9_readLine_87 vX9_136 mX9_is (sp_is_load h hB) ⟨Nat.le_of_ble_eq_true rfl, Nat.le_of_ble_eq_true rfl⟩ (Nat.le_of_ble_eq_true rfl) rfl ?_
      refine pr_if_eq 98 93 dX9_readLine_90 rfl rfl (fun c_90 => ?_) (fun c_90 => absurd (by rw [if_neg (by omega)]) (c_90))
      refine pr_aload_n 99 dX9_readLine_98 rfl rfl rfl ?_
      refine pr_bipush (116) 101 dX9_readLine_99 (by decide) rfl ?_
      refine pr_bipush (114) 103 dX9_readLine_101 (by decide) rfl ?_
      refine pr_bipush (105) 105 dX9_readLine_103 (by decide) rfl ?_
      refine pr_bipush (112) 107 dX9_readLine_105 (by decide) rfl ?_
      refine pr_iconst (0) 108 dX9_readLine_107 (by decide) rfl ?_
      refine pr_invD5 111 dX9_readLine_108 vX9_136 mX9_is (sp_is_trip h hB) ⟨Nat.le_of_ble_eq_true rfl, Nat.le_of_ble_eq_true rfl⟩ (Nat.le_of_ble_eq_true rfl) rfl ?_
      refine pr_if_eq 121 114 dX9_readLine_111 rfl rfl (fun c_111 => ?_) (fun c_111 => absurd (by rw [if_neg (by omega)]) (c_111))
      refine pr_aload_n 122 dX9_readLine_121 rfl rfl rfl ?_
      refine pr_iconst (1) 123 dX9_readLine_122 (by decide) rfl ?_
      refine pr_invDR1 126 dX9_readLine_123 vX9_110 mX9_bad (sp_X9_bad h 1) ⟨Nat.le_of_ble_eq_true rfl, Nat.le_of_ble_eq_true rfl⟩ (Nat.le_of_ble_eq_true rfl) rfl (fun mem1 h1 => ?_)
      refine pr_zreturn dX9_readLine_126 rfl (by first | exact Or.inl rfl | exact Or.inr rfl) ?_
      refine ⟨0, rfl, bad ?_ mem1 h1⟩
      by_cases k0 : tK B T p = 0
      · exact Or.inl k0
      · refine Or.inr ⟨k0, ?_⟩
        rw [stp, if_pos hw]
        by_cases k5 : tK B T p = 5
        · rw [if_pos (by omega)]
        · rw [if_neg (by omega), if_neg k5, if_neg (by omega), if_neg (by omega), if_neg (by omega), if_neg (by omega)]
/-- the end of a line -/
def EQ (m0 : pm_M) (B : Nat → Nat) (T : Nat) (p : Nat) (x : Int32) (m : pm_M) : Prop := lnG (decide (x = 0)) m0 m ∧ pm_fr sMo m0 m ∧
  ((x = 1 ∧ tK B T p = 3 ∧ mtk m B T (tN B T p)) ∨ (x = 0 ∧ ¬ tK B T p = 3 ∧ m.1 10009909 0 8 = 1 ∧ m.1 10009909 0 9 = nI (tS B T p)))
set_option maxRecDepth 100000 in
theorem sp_X9_readEnd (hx : txM mem0 T B) (h : mtk mem0 B T p) (hp : p ≤ T) : Cl yX9_readEnd cX9_readEnd 1 (some .boolean) 2 45 [pR 10009909 0] mem0 (fun r mem => ∃ x, r = some (pI x) ∧ EQ mem0 B T p x mem) := by
  refine Cl.of (own := RX9) rfl rfl (Nat.le_of_ble_eq_true rfl) rfl ?_; show PR _ _ _ _ _ _ [some _] _ _ _
  by_cases k : tK B T p = 3
  · have hN := tN_bd hp (by omega : 2 ≤ tK B T p)
    refine pr_aload_n 1 dX9_readEnd_0 rfl rfl rfl ?_
    refine pr_getI 4 dX9_readEnd_1 fX9_27 rfl ?_
    rw [h.1, k]
    refine pr_iconst (4) 5 dX9_readEnd_4 (by decide) rfl ?_
    refine pr_icmp_eq 14 8 dX9_readEnd_5 rfl rfl (fun c_5 => ?_) (fun c_5 => absurd (rfl) (c_5))
    refine pr_aload_n 15 dX9_readEnd_14 rfl rfl rfl ?_
    refine pr_inv0R0 18 dX9_readEnd_15 vX9_117 mX9_go (sp_X9_go hx.1 hx.2.1 hx.2.2.1 hx.2.2.2 hN.2.1 (h.2.2.1 (by omega))) ⟨Nat.le_of_ble_eq_true rfl, Nat.le_of_ble_eq_true rfl⟩ (Nat.le_of_ble_eq_true rfl) rfl (fun mem1 h1 => ?_)
    refine pr_iconst (1) 19 dX9_readEnd_18 (by decide) rfl ?_
    refine pr_zreturn dX9_readEnd_19 rfl (by first | exact Or.inl rfl | exact Or.inr rfl) ?_
    exact ⟨1, rfl, h1.1.ln, h1.1.1, Or.inl ⟨rfl, k, h1.2⟩⟩
  · have hms : ¬ nI (msort (tK B T p) T) = 4 := by
      unfold msort
      repeat' split
      all_goals first | decide | omega
    refine pr_aload_n 1 dX9_readEnd_0 rfl rfl rfl ?_
    refine pr_getI 4 dX9_readEnd_1 fX9_27 rfl ?_
    rw [h.1]
    refine pr_iconst (4) 5 dX9_readEnd_4 (by decide) rfl ?_
    refine pr_icmp_eq 14 8 dX9_readEnd_5 rfl rfl (fun c_5 => absurd (c_5) (hms)) (fun c_5 => ?_)
    refine pr_aload_n 9 dX9_readEnd_8 rfl rfl rfl ?_
    refine pr_iconst (1) 10 dX9_readEnd_9 (by decide) rfl ?_
    refine pr_invDR1 13 dX9_readEnd_10 vX9_110 mX9_bad (sp_X9_bad h 1) ⟨Nat.le_of_ble_eq_true rfl, Nat.le_of_ble_eq_true rfl⟩ (Nat.le_of_ble_eq_true rfl) rfl (fun mem1 h1 => ?_)
    refine pr_zreturn dX9_readEnd_13 rfl (by first | exact Or.inl rfl | exact Or.inr rfl) ?_
    refine ⟨0, rfl, h1.1.ln, h1.1.1, Or.inr ⟨rfl, k, ?_, h1.2.2.2⟩⟩
    have := h1.2.2.1
    rw [ite_self] at this
    exact this
def K0 : Nat → Nat := fun k => if 4 ≤ k ∧ k < 20 then 1 else 0
def s00 : RS := mkS K0 0 0 [] 0 0 0 (fun _ => (0, 0)) (fun _ => 0)
def sMx : Nat → Nat → Prop := fun t i => t ∈ [10009909, 20869372, 20869371] ∧ i = 0
/-- what holds behind a text -/
def xmP (m0 : pm_M) (B : Nat → Nat) (T : Nat) : Option pm_v → pm_M → Prop := fun r mem => ∃ res, Rd B T s00 0 res ∧ pm_fr sMx m0 mem ∧ mem.1 10009909 0 0 = 0 ∧ mem.1 10009909 0 2 = 0 ∧
  match res with
  | .ok s => r = some (pI (nI s.ln)) ∧ rowR 20869371 mem s.K ∧ mem.1 10009909 0 14 = 0 ∧ mem.1 10009909 0 8 = 0
  | .error e => r = some (pI (-1 - nI e.2)) ∧ mem.1 20869371 0 = m0.1 20869371 0 ∧ mem.1 10009909 0 14 = m0.1 10009909 0 14 ∧ mem.1 10009909 0 8 = nI e.1
set_option maxRecDepth 100000 in
theorem sp_X9_text (h : tapM mem0 T B) (hT : T ≤ 840) (hB : ∀ k, B k < 256) {I : RS → Nat → Prop} (hI : ∀ s p s', I s p → ¬ tK B T p = 0 → stp s (tK B T p) (tV B T p) = .ok s' → I s' (tN B T p)) (hI0 : I s00 0) (hIB : ∀ s p, I s p → s.w = 0 → RB s) : Cl yX9_text cX9_text 3 (some .int) 6 138 [pR 10009909 0] mem0 (xmP mem0 B T) := by
  obtain ⟨M1, hM1⟩ : ∃ M1, M1 = pm_uI (pm_uI (pm_uI (pm_uI (pm_uI mem0 10009909 0 0 0) 10009909 0 3 (nI T)) 10009909 0 2 0) 10009909 0 8 0) 10009909 0 4 0 := ⟨_, rfl⟩
  have f1 : pm_fr sMx mem0 M1 := by
    rw [hM1]
    exact ((((pm_fr.rf.uI ⟨by simp, rfl⟩).uI ⟨by simp, rfl⟩).uI ⟨by simp, rfl⟩).uI ⟨by simp, rfl⟩).uI ⟨by simp, rfl⟩
  have c1 : M1.1 10009909 0 0 = 0 := by rw [hM1, pm_gIn (by simp), pm_gIn (by simp), pm_gIn (by simp), pm_gIn (by simp), pm_gIe]
  have c2 : M1.1 10009909 0 3 = nI T := by rw [hM1, pm_gIn (by simp), pm_gIn (by simp), pm_gIn (by simp), pm_gIe]
  have c3 : M1.1 10009909 0 2 = 0 := by rw [hM1, pm_gIn (by simp), pm_gIn (by simp), pm_gIe]
  have c4 : M1.1 10009909 0 8 = 0 := by rw [hM1, pm_gIn (by simp), pm_gIe]
  have c5 : M1.1 10009909 0 4 = nI 0 := by rw [hM1, pm_gIe]; rfl
  have c6 : M1.1 10009909 0 14 = mem0.1 10009909 0 14 := by rw [hM1, pm_gIn (by simp), pm_gIn (by simp), pm_gIn (by simp), pm_gIn (by simp), pm_gIn (by simp)]
  have ht : ∀ k, k < T → M1.1 20840361 0 k = nI (B k) := by
    intro k hk
    rw [(f1 20840361 0 (by simp [sMx])).1]
    exact h.2 k hk
  have hnw : M1.1 20869371 0 = mem0.1 20869371 0 := by
    funext z
    rw [hM1, pm_gIn (by simp), pm_gIn (by simp), pm_gIn (by simp), pm_gIn (by simp), pm_gIn (by simp)]
  have hnx : ∀ mem, lnG false M1 mem → mem.1 10009909 0 0 = 0 ∧ mem.1 10009909 0 2 = 0 ∧ mem.1 10009909 0 8 = 0 ∧ mem.1 10009909 0 14 = mem0.1 10009909 0 14 := fun mem hg => ⟨by rw [hg.2 _ (by decide) (by decide) (by decide) (by decide) (fun z => by cases z)]; exact c1, by rw [hg.2 _ (by decide) (by decide) (by decide) (by decide) (fun z => by cases z)]; exact c3, by rw [hg.2 _ (by decide) (by decide) (by decide) (by decide) (fun z => by cases z)]; exact c4, by rw [hg.2 _ (by decide) (by decide) (by decide) (by decide) (fun z => by cases z)]; exact c6⟩
  have sMr_x : ∀ t i, sMr t i → sMx t i := fun t i z => ⟨by have := z.1; simp; omega, z.2⟩
  -- all was read: it is now
  have lpC : ∀ (s : RS) (mem1 : pm_M), Rd B T s00 0 (.ok s) → lnG false M1 mem1 → rowR 20869372 mem1 s.K → ∀ j k mem, k + j = 869 → pm_fr sMx mem1 mem → mem.1 10009909 0 = mem1.1 10009909 0 → mem.1 20869372 0 = mem1.1 20869372 0 → (∀ q, q < k → mem.1 20869371 0 q = mem1.1 20869372 0 q) → PR cX9_text RX9 3 6 138 101 [some (pR 10009909 0), some (pI (nI s.ln)), some (pI (nI k))] [] mem (pm_RX cX9_text (some .int) (xmP mem0 B T)) := by
    intro s mem1 hRd hg hr j
    obtain ⟨n1, n2, n3, n4⟩ := hnx mem1 hg
    induction j with
    | zero =>
      intro k mem hj hf e1 e2 e3
      have e : k = 869 := by omega
      subst e
      refine pr_iload_n 102 dX9_text_101 rfl rfl rfl ?_
      refine pr_sipush (869) 105 dX9_text_102 (by decide) rfl ?_
      refine pr_icmp_ge 126 108 dX9_text_105 rfl rfl (fun c_105 => ?_) (fun c_105 => absurd (by decide) (c_105))
      refine pr_aload_n 127 dX9_text_126 rfl rfl rfl ?_
      refine pr_iconst (0) 128 dX9_text_127 (by decide) rfl ?_
      refine pr_putI 131 dX9_text_128 fX9_167 rfl ?_
      refine pr_iload_n 132 dX9_text_131 rfl rfl rfl ?_
      refine pr_ireturn dX9_text_132 rfl ?_
      refine ⟨.ok s, hRd, (f1.tr ((hg.1.mono sMr_x).tr hf)).uI ⟨by simp, rfl⟩, ?_, ?_, rfl, ?_, pm_gIe, ?_⟩
      · rw [pm_gIn (by simp), e1]; exact n1
      · rw [pm_gIn (by simp), e1]; exact n2
      · refine ⟨fun q hq hc => ?_, fun t ht => ?_⟩
        · rw [pm_gIn (by simp), e3 q hq]; exact hr.1 q hq hc
        · rw [pm_gIn (by simp), e3 (4 + t) (by omega)]; exact hr.2 t ht
      · rw [pm_gIn (by simp), e1]; exact n3
    | succ j ih =>
      intro k mem hj hf e1 e2 e3
      refine pr_iload_n 102 dX9_text_101 rfl rfl rfl ?_
      refine pr_sipush (869) 105 dX9_text_102 (by decide) rfl ?_
      refine pr_icmp_ge 126 108 dX9_text_105 rfl rfl (fun c_105 => absurd (c_105) (nI_ge (b := 869) (by omega) (by omega))) (fun c_105 => ?_)
      refine pr_aload_n 109 dX9_text_108 rfl rfl rfl ?_
      refine pr_getR0 112 dX9_text_109 fX9_64 rfl ?_
      refine pr_iload_n 113 dX9_text_112 rfl rfl rfl ?_
      refine pr_aload_n 114 dX9_text_113 rfl rfl rfl ?_
      refine pr_getR0 117 dX9_text_114 fX9_67 rfl ?_
      refine pr_iload_n 118 dX9_text_117 rfl rfl rfl ?_
      refine pr_iaload k 119 dX9_text_118 rfl rfl rfl (by omega) rfl ?_
      rw [e2]
      refine pr_iastore k 120 dX9_text_119 rfl rfl rfl (by omega) rfl ?_
      refine pr_iinc 123 dX9_text_120 rfl (by first | exact pm_inc _ | rfl) (pm_st_2 rfl rfl) rfl ?_
      refine pr_goto 101 dX9_text_123 rfl ?_
      refine ih (k + 1) _ (by omega) (hf.uI ⟨by simp, rfl⟩) (by funext z; rw [pm_gIn (by simp), e1]) (by funext z; rw [pm_gIn (by simp), e2]) (fun q hq => ?_)
      by_cases z : q = k
      · subst z; rw [pm_gIe]
      · rw [pm_gIn (fun y => z y.2.2)]; exact e3 q (by omega)
  -- a fault
  have flt : ∀ (e q : Nat) mem a1 a2, Rd B T s00 0 (.error (e, q)) → lnG true M1 mem → mem.1 10009909 0 8 = nI e → mem.1 10009909 0 9 = nI q → PR cX9_text RX9 3 6 138 86 [some (pR 10009909 0), a1, a2] [] mem (pm_RX cX9_text (some .int) (xmP mem0 B T)) := by
    intro e q mem a1 a2 hRd hg h1 h2
    refine pr_iconst (-1) 87 dX9_text_86 (by decide) rfl ?_
    refine pr_aload_n 88 dX9_text_87 rfl rfl rfl ?_
    refine pr_getI 91 dX9_text_88 fX9_55 rfl ?_
    rw [h2]
    refine pr_isub 92 dX9_text_91 rfl ?_
    refine pr_ireturn dX9_text_92 rfl ?_
    refine ⟨.error (e, q), hRd, f1.tr (hg.1.mono sMr_x), ?_, ?_, rfl, ?_, ?_, h1⟩
    · rw [hg.2 _ (by decide) (by decide) (by decide) (by decide) (fun _ => by decide)]; exact c1
    · rw [hg.2 _ (by decide) (by decide) (by decide) (by decide) (fun _ => by decide)]; exact c3
    · rw [(hg.1 20869371 0 (by simp [sMr])).1]; exact hnw
    · rw [hg.2 _ (by decide) (by decide) (by decide) (by decide) (fun _ => by decide)]; exact c6
  have hx1 : txM M1 T B := ⟨c2, ht, hT, hB⟩
  have lpM : ∀ n p s mem a2, T - p < n → p ≤ T → Rt B T s00 0 s p → s.w = 0 → lnG false M1 mem → rowR 20869372 mem s.K → mtk mem B T p → PR cX9_text RX9 3 6 138 56 [some (pR 10009909 0), some (pI (nI s.ln)), a2] [] mem (pm_RX cX9_text (some .int) (xmP mem0 B T)) := by
    intro n
    induction n with
    | zero => intro p s mem a2 hn; omega
    | succ n ih =>
      intro p s mem a2 hn hp hR hw hg hr hm
      have hx := hx1.ln hg
      have hb := hIB s p (hR.2 I hI hI0) hw
      by_cases k0 : tK B T p = 0 ∧ T ≤ 800
      · have hms : msort (tK B T p) T = 0 := by rw [msort, if_pos k0.1, if_pos k0.2]
        refine pr_aload_n 57 dX9_text_56 rfl rfl rfl ?_
        refine pr_getI 60 dX9_text_57 fX9_27 rfl ?_
        rw [hm.1, hms]
        refine pr_if_eq 99 63 dX9_text_60 rfl rfl (fun c_60 => ?_) (fun c_60 => absurd (rfl) (c_60))
        refine pr_iconst (0) 100 dX9_text_99 (by decide) rfl ?_
        refine pr_istore_n 101 dX9_text_100 rfl (pm_st_2 rfl rfl) rfl ?_
        exact lpC s mem (hR.1 _ (Rd.fin k0.1 ⟨hw, k0.2⟩)) hg hr 869 0 mem (by omega) pm_fr.rf rfl rfl (fun q hq => absurd hq (Nat.not_lt_zero _))
      have hms : ¬ nI (msort (tK B T p) T) = 0 := by
        unfold msort
        repeat' split
        all_goals first | decide | omega
      have mid : PR cX9_text RX9 3 6 138 73 [some (pR 10009909 0), some (pI (nI s.ln)), a2] [pI (if s.ln = 0 then 1 else 0), pR 10009909 0] mem (pm_RX cX9_text (some .int) (xmP mem0 B T)) := by
        refine pr_invX1 76 dX9_text_73 vX9_160 mX9_readLine (sp_X9_readLine hx hm hp hr hw hb k0) ⟨Nat.le_of_ble_eq_true rfl, Nat.le_of_ble_eq_true rfl⟩ (Nat.le_of_ble_eq_true rfl) rfl (fun x1 mem1 q1 => ?_)
        rcases q1 with ⟨g1, ⟨rfl, s', p', R', r', m', hp', w', eln, e3, e1⟩ | ⟨rfl, e, q, hRd, l1, l2⟩⟩
        · have g1' : lnG false mem mem1 := g1
          have G1 := hg.tr g1'
          have hx' := hx1.ln G1
          have hle := R'.le hp
          refine pr_if_eq 86 79 dX9_text_76 rfl rfl (fun c_76 => absurd (c_76) (by decide)) (fun c_76 => ?_)
          refine pr_aload_n 80 dX9_text_79 rfl rfl rfl ?_
          refine pr_invX0 83 dX9_text_80 vX9_164 mX9_readEnd (sp_X9_readEnd hx' m' hp') ⟨Nat.le_of_ble_eq_true rfl, Nat.le_of_ble_eq_true rfl⟩ (Nat.le_of_ble_eq_true rfl) rfl (fun x2 mem2 q2 => ?_)
          rcases q2 with ⟨g2, o2, ⟨rfl, k3, m2⟩ | ⟨rfl, k3, l1, l2⟩⟩
          · have g2' : lnG false mem1 mem2 := g2
            have hN := tN_bd hp' (by omega : 2 ≤ tK B T p')
            have R2 : Rt B T s00 0 (endL s') (tN B T p') := (hR.tr R').tr (Rt.one (by omega) (by rw [k3]; exact e3 k3))
            refine pr_if_ne 93 86 dX9_text_83 rfl rfl (fun c_83 => ?_) (fun c_83 => absurd (c_83) (by decide))
            refine pr_iinc 96 dX9_text_93 rfl (by first | exact pm_inc _ | rfl) (pm_st_1 rfl rfl) rfl ?_
            refine pr_goto 56 dX9_text_96 rfl ?_
            have := ih (tN B T p') (endL s') mem2 a2 (by omega) hN.2.1 R2 rfl (G1.tr g2') (r'.fr o2 (by simp [sMo])) m2
            rw [show (endL s').ln = s.ln + 1 from by show s'.ln + 1 = _; rw [eln]] at this
            exact this
          · have hRd : Rd B T s00 0 (.error (1, tS B T p')) := by
              refine (hR.tr R').1 _ ?_
              by_cases z : tK B T p' = 0
              · exact Rd.cut z (fun y => w' y.1)
              · exact Rd.bad z (e1 k3 z)
            refine pr_if_ne 93 86 dX9_text_83 rfl rfl (fun c_83 => absurd (rfl) (c_83)) (fun c_83 => ?_)
            exact flt 1 _ mem2 _ _ hRd (G1.tr g2) l1 l2
        · refine pr_if_eq 86 79 dX9_text_76 rfl rfl (fun c_76 => ?_) (fun c_76 => absurd (rfl) (c_76))
          exact flt e q mem1 _ _ (hR.1 _ hRd) (hg.tr g1) l1 l2
      by_cases hl : s.ln = 0
      · rw [if_pos hl] at mid
        refine pr_aload_n 57 dX9_text_56 rfl rfl rfl ?_
        refine pr_getI 60 dX9_text_57 fX9_27 rfl ?_
        rw [hm.1]
        refine pr_if_eq 99 63 dX9_text_60 rfl rfl (fun c_60 => absurd (c_60) (hms)) (fun c_60 => ?_)
        refine pr_aload_n 64 dX9_text_63 rfl rfl rfl ?_
        refine pr_iload_n 65 dX9_text_64 rfl rfl rfl ?_
        refine pr_if_ne 72 68 dX9_text_65 rfl rfl (fun c_65 => absurd (by rw [hl]; rfl) (c_65)) (fun c_65 => ?_)
        refine pr_iconst (1) 69 dX9_text_68 (by decide) rfl ?_
        refine pr_goto 73 dX9_text_69 rfl ?_
        exact mid
      · rw [if_neg hl] at mid
        refine pr_aload_n 57 dX9_text_56 rfl rfl rfl ?_
        refine pr_getI 60 dX9_text_57 fX9_27 rfl ?_
        rw [hm.1]
        refine pr_if_eq 99 63 dX9_text_60 rfl rfl (fun c_60 => absurd (c_60) (hms)) (fun c_60 => ?_)
        refine pr_aload_n 64 dX9_text_63 rfl rfl rfl ?_
        refine pr_iload_n 65 dX9_text_64 rfl rfl rfl ?_
        refine pr_if_ne 72 68 dX9_text_65 rfl rfl (fun c_65 => ?_) (fun c_65 => absurd (c_65) (nI_ne0 (by omega) (by have := hb.1; omega)))
        refine pr_iconst (0) 73 dX9_text_72 (by decide) rfl ?_
        exact mid
  have lpZ : ∀ j k mem, k + j = 869 → pm_fr sRd M1 mem → (∀ q, q < k → mem.1 20869372 0 q = 0) → PR cX9_text RX9 3 6 138 32 [some (pR 10009909 0), some (pI 0), some (pI (nI k))] [] mem (pm_RX cX9_text (some .int) (xmP mem0 B T)) := by
    intro j
    induction j with
    | zero =>
      intro k mem hj hf hz
      have e : k = 869 := by omega
      subst e
      have hg := sRd_ln hf
      have hx := hx1.ln hg
      have hr : rowR 20869372 mem K0 := ⟨fun q hq hc => by rw [hz q hq, K0, if_neg (by omega)]; rfl, fun t ht => by rw [hz (4 + t) (by omega), K0, if_pos (by omega)]; rfl⟩
      have c5' : mem.1 10009909 0 4 = nI 0 := by rw [(hf _ _ (by simp [sRd])).1]; exact c5
      refine pr_iload_n 33 dX9_text_32 rfl rfl rfl ?_
      refine pr_sipush (869) 36 dX9_text_33 (by decide) rfl ?_
      refine pr_icmp_ge 52 39 dX9_text_36 rfl rfl (fun c_36 => ?_) (fun c_36 => absurd (by decide) (c_36))
      refine pr_aload_n 53 dX9_text_52 rfl rfl rfl ?_
      refine pr_inv0R0 56 dX9_text_53 vX9_117 mX9_go (sp_X9_go hx.1 hx.2.1 hx.2.2.1 hx.2.2.2 (Nat.zero_le T) c5') ⟨Nat.le_of_ble_eq_true rfl, Nat.le_of_ble_eq_true rfl⟩ (Nat.le_of_ble_eq_true rfl) rfl (fun mem1 q1 => ?_)
      exact lpM (T + 1) 0 s00 mem1 _ (by omega) (Nat.zero_le _) Rt.rf rfl (hg.tr q1.1.ln) (goF.row hr q1.1) q1.2
    | succ j ih =>
      intro k mem hj hf hz
      refine pr_iload_n 33 dX9_text_32 rfl rfl rfl ?_
      refine pr_sipush (869) 36 dX9_text_33 (by decide) rfl ?_
      refine pr_icmp_ge 52 39 dX9_text_36 rfl rfl (fun c_36 => absurd (c_36) (nI_ge (b := 869) (by omega) (by omega))) (fun c_36 => ?_)
      refine pr_aload_n 40 dX9_text_39 rfl rfl rfl ?_
      refine pr_getR0 43 dX9_text_40 fX9_67 rfl ?_
      refine pr_iload_n 44 dX9_text_43 rfl rfl rfl ?_
      refine pr_iconst (0) 45 dX9_text_44 (by decide) rfl ?_
      refine pr_iastore k 46 dX9_text_45 rfl rfl rfl (by omega) rfl ?_
      refine pr_iinc 49 dX9_text_46 rfl (by first | exact pm_inc _ | rfl) (pm_st_2 rfl rfl) rfl ?_
      refine pr_goto 32 dX9_text_49 rfl ?_
      refine ih (k + 1) _ (by omega) (hf.uI ⟨rfl, rfl⟩) (fun q hq => ?_)
      by_cases z : q = k
      · subst z; rw [pm_gIe]
      · rw [pm_gIn (fun y => z y.2.2)]; exact hz q (by omega)
  refine Cl.of (own := RX9) rfl rfl (Nat.le_of_ble_eq_true rfl) rfl ?_; show PR _ _ _ _ _ _ [some _, none, none] _ _ _
  refine pr_aload_n 1 dX9_text_0 rfl rfl rfl ?_
  refine pr_iconst (0) 2 dX9_text_1 (by decide) rfl ?_
  refine pr_putI 5 dX9_text_2 fX9_1 rfl ?_
  refine pr_aload_n 6 dX9_text_5 rfl rfl rfl ?_
  refine pr_aload_n 7 dX9_text_6 rfl rfl rfl ?_
  refine pr_getI 10 dX9_text_7 fX9_11 rfl ?_
  rw [pm_gIn (by simp), h.1]
  refine pr_putI 13 dX9_text_10 fX9_18 rfl ?_
  refine pr_aload_n 14 dX9_text_13 rfl rfl rfl ?_
  refine pr_iconst (0) 15 dX9_text_14 (by decide) rfl ?_
  refine pr_putI 18 dX9_text_15 fX9_11 rfl ?_
  refine pr_aload_n 19 dX9_text_18 rfl rfl rfl ?_
  refine pr_iconst (0) 20 dX9_text_19 (by decide) rfl ?_
  refine pr_putI 23 dX9_text_20 fX9_52 rfl ?_
  refine pr_aload_n 24 dX9_text_23 rfl rfl rfl ?_
  refine pr_iconst (0) 25 dX9_text_24 (by decide) rfl ?_
  refine pr_putI 28 dX9_text_25 fX9_21 rfl ?_
  refine pr_iconst (0) 29 dX9_text_28 (by decide) rfl ?_
  refine pr_istore_n 30 dX9_text_29 rfl (pm_st_1 rfl rfl) rfl ?_
  refine pr_iconst (0) 31 dX9_text_30 (by decide) rfl ?_
  refine pr_istore_n 32 dX9_text_31 rfl (pm_st_2 rfl rfl) rfl ?_
  rw [← hM1]
  exact lpZ 869 0 M1 (by omega) pm_fr.rf (fun q hq => absurd hq (Nat.not_lt_zero _))
end MTX
