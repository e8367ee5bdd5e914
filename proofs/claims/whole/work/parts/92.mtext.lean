/-! the reference: a text -/
def RB (s : RS) : Prop := s.K 40 ≤ 16 ∧ s.K 38 ≤ 4 ∧ s.K 37 ≤ 12 ∧ s.K 39 ≤ 16 ∧ ∀ q, q < 12 → s.K (41 + q) ≤ 99 ∧ s.K (53 + q) ≤ 99
section MTX
variable {mem mem0 : pm_M} {T p : Nat} {B : Nat → Nat} {s : RS}
set_option maxRecDepth 100000 in
theorem sp_X9_readLine (hx : txM mem0 T B) (h : mtk mem0 B T p) (hp : p ≤ T) (hr : rowR 20869372 mem0 s.K) (hw : s.w = 0) (hb : RB s) (hs0 : ¬ (tK B T p = 0 ∧ T ≤ 800)) : Cl yX9_readLine cX9_readLine 2 (some .boolean) 5 117 [pR 10009909 0, pI (if s.ln = 0 then 1 else 0)] mem0 (fun r mem => ∃ x, r = some (pI x) ∧ LQ mem0 B T s p x mem) := by
  have hB := hx.2.2.2
  obtain ⟨b1, b2, b3, b4, b5⟩ := hb
  have bad : (tK B T p = 0 ∨ ¬ tK B T p = 0 ∧ stp s (tK B T p) (tV B T p) = .error 1) → ∀ (mem1 : pm_M), badF mem0 mem1 ∧ mem1.2.1 = mem0.2.1 ∧ mem1.1 10009909 0 8 = nI (if msort (tK B T p) T = 1 then 1 else 1) ∧ mem1.1 10009909 0 9 = nI (tS B T p) → LQ mem0 B T s p 0 mem1 := by
    intro hc mem1 h1
    refine ⟨h1.1.ln, Or.inr ⟨rfl, 1, tS B T p, ?_, ?_, h1.2.2.2⟩⟩
    · rcases hc with z | z
      · exact Rd.cut z (fun y => hs0 ⟨z, y.2⟩)
      · exact Rd.bad z.1 z.2
    · have := h1.2.2.1
      rw [ite_self] at this
      exact this
  refine Cl.of (own := RX9) rfl rfl (Nat.le_of_ble_eq_true rfl) rfl ?_; show PR _ _ _ _ _ _ [some _, some _] _ _ _
  by_cases hl : s.ln = 0
  · rw [if_pos hl]
    by_cases k5 : tK B T p = 5
    · refine pr_iload_n 1 dX9_readLine_0 rfl rfl rfl ?_
      refine pr_if_eq 33 4 dX9_readLine_1 rfl rfl (fun c_1 => absurd (c_1) (by decide)) (fun c_1 => ?_)
      refine pr_aload_n 5 dX9_readLine_4 rfl rfl rfl ?_
      refine pr_bipush (100) 7 dX9_readLine_5 (by decide) rfl ?_
      refine pr_bipush (101) 9 dX9_readLine_7 (by decide) rfl ?_
      refine pr_bipush (115) 11 dX9_readLine_9 (by decide) rfl ?_
      refine pr_bipush (107) 13 dX9_readLine_11 (by decide) rfl ?_
      refine pr_iconst (0) 14 dX9_readLine_13 (by decide) rfl ?_
      refine pr_invD5 17 dX9_readLine_14 vX9_136 mX9_is (sp_is_desk h hB) ⟨Nat.le_of_ble_eq_true rfl, Nat.le_of_ble_eq_true rfl⟩ (Nat.le_of_ble_eq_true rfl) rfl ?_
      refine pr_if_eq 27 20 dX9_readLine_17 rfl rfl (fun c_17 => absurd (c_17) (by rw [if_pos k5]; decide)) (fun c_17 => ?_)
      refine pr_aload_n 21 dX9_readLine_20 rfl rfl rfl ?_
      refine pr_invX0 24 dX9_readLine_21 vX9_144 mX9_readDesk (sp_X9_readDesk hx h hp hr hw hl k5) ⟨Nat.le_of_ble_eq_true rfl, Nat.le_of_ble_eq_true rfl⟩ (Nat.le_of_ble_eq_true rfl) rfl (fun x1 mem1 h1 => ?_)
      refine pr_goto 32 dX9_readLine_24 rfl ?_
      refine pr_zreturn dX9_readLine_32 rfl (by rcases h1.2 with z | z; exact Or.inr z.1; exact Or.inl z.1) ?_
      exact ⟨x1, rfl, h1⟩
    · refine pr_iload_n 1 dX9_readLine_0 rfl rfl rfl ?_
      refine pr_if_eq 33 4 dX9_readLine_1 rfl rfl (fun c_1 => absurd (c_1) (by decide)) (fun c_1 => ?_)
      refine pr_aload_n 5 dX9_readLine_4 rfl rfl rfl ?_
      refine pr_bipush (100) 7 dX9_readLine_5 (by decide) rfl ?_
      refine pr_bipush (101) 9 dX9_readLine_7 (by decide) rfl ?_
      refine pr_bipush (115) 11 dX9_readLine_9 (by decide) rfl ?_
      refine pr_bipush (107) 13 dX9_readLine_11 (by decide) rfl ?_
      refine pr_iconst (0) 14 dX9_readLine_13 (by decide) rfl ?_
      refine pr_invD5 17 dX9_readLine_14 vX9_136 mX9_is (sp_is_desk h hB) ⟨Nat.le_of_ble_eq_true rfl, Nat.le_of_ble_eq_true rfl⟩ (Nat.le_of_ble_eq_true rfl) rfl ?_
      refine pr_if_eq 27 20 dX9_readLine_17 rfl rfl (fun c_17 => ?_) (fun c_17 => absurd (by rw [if_neg k5]) (c_17))
      refine pr_aload_n 28 dX9_readLine_27 rfl rfl rfl ?_
      refine pr_iconst (1) 29 dX9_readLine_28 (by decide) rfl ?_
      refine pr_invDR1 32 dX9_readLine_29 vX9_110 mX9_bad (sp_X9_bad h 1) ⟨Nat.le_of_ble_eq_true rfl, Nat.le_of_ble_eq_true rfl⟩ (Nat.le_of_ble_eq_true rfl) rfl (fun mem1 h1 => ?_)
      refine pr_zreturn dX9_readLine_32 rfl (by first | exact Or.inl rfl | exact Or.inr rfl) ?_
      refine ⟨0, rfl, bad ?_ mem1 h1⟩
      by_cases k0 : tK B T p = 0
      · exact Or.inl k0
      · exact Or.inr ⟨k0, by rw [stp, if_pos hw, if_pos (by omega)]⟩
  · rw [if_neg hl]
    rcases (by omega : tK B T p = 6 ∨ tK B T p = 7 ∨ tK B T p = 8 ∨ tK B T p = 9 ∨ ¬ (tK B T p = 6 ∨ tK B T p = 7 ∨ tK B T p = 8 ∨ tK B T p = 9)) with k | k | k | k | k
    · refine pr_iload_n 1 dX9_readLine_0 rfl rfl rfl ?_
      refine pr_if_eq 33 4 dX9_readLine_1 rfl rfl (fun c_1 => ?_) (fun c_1 => absurd (rfl) (c_1))
      refine pr_aload_n 34 dX9_readLine_33 rfl rfl rfl ?_
      refine pr_bipush (112) 36 dX9_readLine_34 (by decide) rfl ?_
      refine pr_bipush (108) 38 dX9_readLine_36 (by decide) rfl ?_
      refine pr_bipush (97) 40 dX9_readLine_38 (by decide) rfl ?_
      refine pr_bipush (99) 42 dX9_readLine_40 (by decide) rfl ?_
      refine pr_bipush (101) 44 dX9_readLine_42 (by decide) rfl ?_
      refine pr_invD5 47 dX9_readLine_44 vX9_136 mX9_is (sp_is_place h hB) ⟨Nat.le_of_ble_eq_true rfl, Nat.le_of_ble_eq_true rfl⟩ (Nat.le_of_ble_eq_true rfl) rfl ?_
      refine pr_if_eq 55 50 dX9_readLine_47 rfl rfl (fun c_47 => absurd (c_47) (by rw [if_pos k]; decide)) (fun c_47 => ?_)
      refine pr_aload_n 51 dX9_readLine_50 rfl rfl rfl ?_
      refine pr_invX0 54 dX9_readLine_51 vX9_148 mX9_readPlace (sp_X9_readPlace hx h hp hr hw hl k b3) ⟨Nat.le_of_ble_eq_true rfl, Nat.le_of_ble_eq_true rfl⟩ (Nat.le_of_ble_eq_true rfl) rfl (fun x1 mem1 h1 => ?_)
      refine pr_zreturn dX9_readLine_54 rfl (by rcases h1.2 with z | z; exact Or.inr z.1; exact Or.inl z.1) ?_
      exact ⟨x1, rfl, h1⟩
    · refine pr_iload_n 1 dX9_readLine_0 rfl rfl rfl ?_
      refine pr_if_eq 33 4 dX9_readLine_1 rfl rfl (fun c_1 => ?_) (fun c_1 => absurd (rfl) (c_1))
      refine pr_aload_n 34 dX9_readLine_33 rfl rfl rfl ?_
      refine pr_bipush (112) 36 dX9_readLine_34 (by decide) rfl ?_
      refine pr_bipush (108) 38 dX9_readLine_36 (by decide) rfl ?_
      refine pr_bipush (97) 40 dX9_readLine_38 (by decide) rfl ?_
      refine pr_bipush (99) 42 dX9_readLine_40 (by decide) rfl ?_
      refine pr_bipush (101) 44 dX9_readLine_42 (by decide) rfl ?_
      refine pr_invD5 47 dX9_readLine_44 vX9_136 mX9_is (sp_is_place h hB) ⟨Nat.le_of_ble_eq_true rfl, Nat.le_of_ble_eq_true rfl⟩ (Nat.le_of_ble_eq_true rfl) rfl ?_
      refine pr_if_eq 55 50 dX9_readLine_47 rfl rfl (fun c_47 => ?_) (fun c_47 => absurd (by rw [if_neg (by omega)]) (c_47))
      refine pr_aload_n 56 dX9_readLine_55 rfl rfl rfl ?_
      refine pr_bipush (116) 58 dX9_readLine_56 (by decide) rfl ?_
      refine pr_bipush (114) 60 dX9_readLine_58 (by decide) rfl ?_
      refine pr_bipush (117) 62 dX9_readLine_60 (by decide) rfl ?_
      refine pr_bipush (99) 64 dX9_readLine_62 (by decide) rfl ?_
      refine pr_bipush (107) 66 dX9_readLine_64 (by decide) rfl ?_
      refine pr_invD5 69 dX9_readLine_66 vX9_136 mX9_is (sp_is_truck h hB) ⟨Nat.le_of_ble_eq_true rfl, Nat.le_of_ble_eq_true rfl⟩ (Nat.le_of_ble_eq_true rfl) rfl ?_
      refine pr_if_eq 77 72 dX9_readLine_69 rfl rfl (fun c_69 => absurd (c_69) (by rw [if_pos k]; decide)) (fun c_69 => ?_)
      refine pr_aload_n 73 dX9_readLine_72 rfl rfl rfl ?_
      refine pr_invX0 76 dX9_readLine_73 vX9_151 mX9_readTruck (sp_X9_readTruck hx h hp hr hw hl k b2) ⟨Nat.le_of_ble_eq_true rfl, Nat.le_of_ble_eq_true rfl⟩ (Nat.le_of_ble_eq_true rfl) rfl (fun x1 mem1 h1 => ?_)
      refine pr_zreturn dX9_readLine_76 rfl (by rcases h1.2 with z | z; exact Or.inr z.1; exact Or.inl z.1) ?_
      exact ⟨x1, rfl, h1⟩
    · refine pr_iload_n 1 dX9_readLine_0 rfl rfl rfl ?_
      refine pr_if_eq 33 4 dX9_readLine_1 rfl rfl (fun c_1 => ?_) (fun c_1 => absurd (rfl) (c_1))
      refine pr_aload_n 34 dX9_readLine_33 rfl rfl rfl ?_
      refine pr_bipush (112) 36 dX9_readLine_34 (by decide) rfl ?_
      refine pr_bipush (108) 38 dX9_readLine_36 (by decide) rfl ?_
      refine pr_bipush (97) 40 dX9_readLine_38 (by decide) rfl ?_
      refine pr_bipush (99) 42 dX9_readLine_40 (by decide) rfl ?_
      refine pr_bipush (101) 44 dX9_readLine_42 (by decide) rfl ?_
      refine pr_invD5 47 dX9_readLine_44 vX9_136 mX9_is (sp_is_place h hB) ⟨Nat.le_of_ble_eq_true rfl, Nat.le_of_ble_eq_true rfl⟩ (Nat.le_of_ble_eq_true rfl) rfl ?_
      refine pr_if_eq 55 50 dX9_readLine_47 rfl rfl (fun c_47 => ?_) (fun c_47 => absurd (by rw [if_neg (by omega)]) (c_47))
      refine pr_aload_n 56 dX9_readLine_55 rfl rfl rfl ?_
      refine pr_bipush (116) 58 dX9_readLine_56 (by decide) rfl ?_
      refine pr_bipush (114) 60 dX9_readLine_58 (by decide) rfl ?_
      refine pr_bipush (117) 62 dX9_readLine_60 (by decide) rfl ?_
      refine pr_bipush (99) 64 dX9_readLine_62 (by decide) rfl ?_
      refine pr_bipush (107) 66 dX9_readLine_64 (by decide) rfl ?_
      refine pr_invD5 69 dX9_readLine_66 vX9_136 mX9_is (sp_is_truck h hB) ⟨Nat.le_of_ble_eq_true rfl, Nat.le_of_ble_eq_true rfl⟩ (Nat.le_of_ble_eq_true rfl) rfl ?_
      refine pr_if_eq 77 72 dX9_readLine_69 rfl rfl (fun c_69 => ?_) (fun c_69 => absurd (by rw [if_neg (by omega)]) (c_69))
      refine pr_aload_n 78 dX9_readLine_77 rfl rfl rfl ?_
      refine pr_bipush (108) 80 dX9_readLine_78 (by decide) rfl ?_
      refine pr_bipush (111) 82 dX9_readLine_80 (by decide) rfl ?_
      refine pr_bipush (97) 84 dX9_readLine_82 (by decide) rfl ?_
      refine pr_bipush (100) 86 dX9_readLine_84 (by decide) rfl ?_
      refine pr_iconst (0) 87 dX9_readLine_86 (by decide) rfl ?_
      refine pr_invD5 90 dX9_readLine_87 vX9_136 mX9_is (sp_is_load h hB) ⟨Nat.le_of_ble_eq_true rfl, Nat.le_of_ble_eq_true rfl⟩ (Nat.le_of_ble_eq_true rfl) rfl ?_
      refine pr_if_eq 98 93 dX9_readLine_90 rfl rfl (fun c_90 => absurd (c_90) (by rw [if_pos k]; decide)) (fun c_90 => ?_)
      refine pr_aload_n 94 dX9_readLine_93 rfl rfl rfl ?_
      refine pr_invX0 97 dX9_readLine_94 vX9_154 mX9_readLoad (sp_X9_readLoad hx h hp hr hw hl k b4 b3) ⟨Nat.le_of_ble_eq_true rfl, Nat.le_of_ble_eq_true rfl⟩ (Nat.le_of_ble_eq_true rfl) rfl (fun x1 mem1 h1 => ?_)
      refine pr_zreturn dX9_readLine_97 rfl (by rcases h1.2 with z | z; exact Or.inr z.1; exact Or.inl z.1) ?_
      exact ⟨x1, rfl, h1⟩
    · refine pr_iload_n 1 dX9_readLine_0 rfl rfl rfl ?_
      refine pr_if_eq 33 4 dX9_readLine_1 rfl rfl (fun c_1 => ?_) (fun c_1 => absurd (rfl) (c_1))
      refine pr_aload_n 34 dX9_readLine_33 rfl rfl rfl ?_
      refine pr_bipush (112) 36 dX9_readLine_34 (by decide) rfl ?_
      refine pr_bipush (108) 38 dX9_readLine_36 (by decide) rfl ?_
      refine pr_bipush (97) 40 dX9_readLine_38 (by decide) rfl ?_
      refine pr_bipush (99) 42 dX9_readLine_40 (by decide) rfl ?_
      refine pr_bipush (101) 44 dX9_readLine_42 (by decide) rfl ?_
      refine pr_invD5 47 dX9_readLine_44 vX9_136 mX9_is (sp_is_place h hB) ⟨Nat.le_of_ble_eq_true rfl, Nat.le_of_ble_eq_true rfl⟩ (Nat.le_of_ble_eq_true rfl) rfl ?_
      refine pr_if_eq 55 50 dX9_readLine_47 rfl rfl (fun c_47 => ?_) (fun c_47 => absurd (by rw [if_neg (by omega)]) (c_47))
      refine pr_aload_n 56 dX9_readLine_55 rfl rfl rfl ?_
      refine pr_bipush (116) 58 dX9_readLine_56 (by decide) rfl ?_
      refine pr_bipush (114) 60 dX9_readLine_58 (by decide) rfl ?_
      refine pr_bipush (117) 62 dX9_readLine_60 (by decide) rfl ?_
      refine pr_bipush (99) 64 dX9_readLine_62 (by decide) rfl ?_
      refine pr_bipush (107) 66 dX9_readLine_64 (by decide) rfl ?_
      refine pr_invD5 69 dX9_readLine_66 vX9_136 mX9_is (sp_is_truck h hB) ⟨Nat.le_of_ble_eq_true rfl, Nat.le_of_ble_eq_true rfl⟩ (Nat.le_of_ble_eq_true rfl) rfl ?_
      refine pr_if_eq 77 72 dX9_readLine_69 rfl rfl (fun c_69 => ?_) (fun c_69 => absurd (by rw [if_neg (by omega)]) (c_69))
      refine pr_aload_n 78 dX9_readLine_77 rfl rfl rfl ?_
      refine pr_bipush (108) 80 dX9_readLine_78 (by decide) rfl ?_
      refine pr_bipush (111) 82 dX9_readLine_80 (by decide) rfl ?_
      refine pr_bipush (97) 84 dX9_readLine_82 (by decide) rfl ?_
      refine pr_bipush (100) 86 dX9_readLine_84 (by decide) rfl ?_
      refine pr_iconst (0) 87 dX9_readLine_86 (by decide) rfl ?_
      refine pr_invD5 90 dX9_readLine_87 vX9_136 mX9_is (sp_is_load h hB) ⟨Nat.le_of_ble_eq_true rfl, Nat.le_of_ble_eq_true rfl⟩ (Nat.le_of_ble_eq_true rfl) rfl ?_
      refine pr_if_eq 98 93 dX9_readLine_90 rfl rfl (fun c_90 => ?_) (fun c_90 => absurd (by rw [if_neg (by omega)]) (c_90))
      refine pr_aload_n 99 dX9_readLine_98 rfl rfl rfl ?_
      refine pr_bipush (116) 101 dX9_readLine_99 (by decide) rfl ?_
      refine pr_bipush (114) 103 dX9_readLine_101 (by decide) rfl ?_
      refine pr_bipush (105) 105 dX9_readLine_103 (by decide) rfl ?_
      refine pr_bipush (112) 107 dX9_readLine_105 (by decide) rfl ?_
      refine pr_iconst (0) 108 dX9_readLine_107 (by decide) rfl ?_
      refine pr_invD5 111 dX9_readLine_108 vX9_136 mX9_is (sp_is_trip h hB) ⟨Nat.le_of_ble_eq_true rfl, Nat.le_of_ble_eq_true rfl⟩ (Nat.le_of_ble_eq_true rfl) rfl ?_
      refine pr_if_eq 121 114 dX9_readLine_111 rfl rfl (fun c_111 => absurd (c_111) (by rw [if_pos k]; decide)) (fun c_111 => ?_)
      refine pr_aload_n 115 dX9_readLine_114 rfl rfl rfl ?_
      refine pr_invX0 118 dX9_readLine_115 vX9_157 mX9_readTrip (sp_X9_readTrip hx h hp hr hw hl k b1 b2 b3 b4 b5) ⟨Nat.le_of_ble_eq_true rfl, Nat.le_of_ble_eq_true rfl⟩ (Nat.le_of_ble_eq_true rfl) rfl (fun x1 mem1 h1 => ?_)
      refine pr_goto 126 dX9_readLine_118 rfl ?_
      refine pr_zreturn dX9_readLine_126 rfl (by rcases h1.2 with z | z; exact Or.inr z.1; exact Or.inl z.1) ?_
      exact ⟨x1, rfl, h1⟩
    · refine pr_iload_n 1 dX9_readLine_0 rfl rfl rfl ?_
      refine pr_if_eq 33 4 dX9_readLine_1 rfl rfl (fun c_1 => ?_) (fun c_1 => absurd (rfl) (c_1))
      refine pr_aload_n 34 dX9_readLine_33 rfl rfl rfl ?_
      refine pr_bipush (112) 36 dX9_readLine_34 (by decide) rfl ?_
      refine pr_bipush (108) 38 dX9_readLine_36 (by decide) rfl ?_
      refine pr_bipush (97) 40 dX9_readLine_38 (by decide) rfl ?_
      refine pr_bipush (99) 42 dX9_readLine_40 (by decide) rfl ?_
      refine pr_bipush (101) 44 dX9_readLine_42 (by decide) rfl ?_
      refine pr_invD5 47 dX9_readLine_44 vX9_136 mX9_is (sp_is_place h hB) ⟨Nat.le_of_ble_eq_true rfl, Nat.le_of_ble_eq_true rfl⟩ (Nat.le_of_ble_eq_true rfl) rfl ?_
      refine pr_if_eq 55 50 dX9_readLine_47 rfl rfl (fun c_47 => ?_) (fun c_47 => absurd (by rw [if_neg (by omega)]) (c_47))
      refine pr_aload_n 56 dX9_readLine_55 rfl rfl rfl ?_
      refine pr_bipush (116) 58 dX9_readLine_56 (by decide) rfl ?_
      refine pr_bipush (114) 60 dX9_readLine_58 (by decide) rfl ?_
      refine pr_bipush (117) 62 dX9_readLine_60 (by decide) rfl ?_
      refine pr_bipush (99) 64 dX9_readLine_62 (by decide) rfl ?_
      refine pr_bipush (107) 66 dX9_readLine_64 (by decide) rfl ?_
      refine pr_invD5 69 dX9_readLine_66 vX9_136 mX9_is (sp_is_truck h hB) ⟨Nat.le_of_ble_eq_true rfl, Nat.le_of_ble_eq_true rfl⟩ (Nat.le_of_ble_eq_true rfl) rfl ?_
      refine pr_if_eq 77 72 dX9_readLine_69 rfl rfl (fun c_69 => ?_) (fun c_69 => absurd (by rw [if_neg (by omega)]) (c_69))
      refine pr_aload_n 78 dX9_readLine_77 rfl rfl rfl ?_
      refine pr_bipush (108) 80 dX9_readLine_78 (by decide) rfl ?_
      refine pr_bipush (111) 82 dX9_readLine_80 (by decide) rfl ?_
      refine pr_bipush (97) 84 dX9_readLine_82 (by decide) rfl ?_
      refine pr_bipush (100) 86 dX9_readLine_84 (by decide) rfl ?_
      refine pr_iconst (0) 87 dX9_readLine_86 (by decide) rfl ?_
      refine pr_invD5 90 dX9_readLine_87 vX9_136 mX9_is (sp_is_load h hB) ⟨Nat.le_of_ble_eq_true rfl, Nat.le_of_ble_eq_true rfl⟩ (Nat.le_of_ble_eq_true rfl) rfl ?_
      refine pr_if_eq 98 93 dX9_readLine_90 rfl rfl (fun c_90 => ?_) (fun c_90 => absurd (by rw [if_neg (by omega)]) (c_90))
      refine pr_aload_n 99 dX9_readLine_98 rfl rfl rfl ?_
      refine pr_bipush (116) 101 dX9_readLine_99 (by decide) rfl ?_
      refine pr_bipush (114) 103 dX9_readLine_101 (by decide) rfl ?_
      refine pr_bipush (105) 105 dX9_readLine_103 (by decide) rfl ?_
      refine pr_bipush (112) 107 dX9_readLine_105 (by decide) rfl ?_
      refine pr_iconst (0) 108 dX9_readLine_107 (by decide) rfl ?_
      refine pr_invD5 111 dX9_readLine_108 vX9_136 mX9_is (sp_is_trip h hB) ⟨Nat.le_of_ble_eq_true rfl, Nat.le_of_ble_eq_true rfl⟩ (Nat.le_of_ble_eq_true rfl) rfl ?_
      refine pr_if_eq 121 114 dX9_readLine_111 rfl rfl (fun c_111 => ?_) (fun c_111 => absurd (by rw [if_neg (by omega)]) (c_111))
      refine pr_aload_n 122 dX9_readLine_121 rfl rfl rfl ?_
      refine pr_iconst (1) 123 dX9_readLine_122 (by decide) rfl ?_
      refine pr_invDR1 126 dX9_readLine_123 vX9_110 mX9_bad (sp_X9_bad h 1) ⟨Nat.le_of_ble_eq_true rfl, Nat.le_of_ble_eq_true rfl⟩ (Nat.le_of_ble_eq_true rfl) rfl (fun mem1 h1 => ?_)
      refine pr_zreturn dX9_readLine_126 rfl (by first | exact Or.inl rfl | exact Or.inr rfl) ?_
      refine ⟨0, rfl, bad ?_ mem1 h1⟩
      by_cases k0 : tK B T p = 0
      · exact Or.inl k0
      · refine Or.inr ⟨k0, ?_⟩
        rw [stp, if_pos hw]
        by_cases k5 : tK B T p = 5
        · rw [if_pos (by omega)]
        · rw [if_neg (by omega), if_neg k5, if_neg (by omega), if_neg (by omega), if_neg (by omega), if_neg (by omega)]
/-- the end of a line -/
def EQ (m0 : pm_M) (B : Nat → Nat) (T : Nat) (p : Nat) (x : Int32) (m : pm_M) : Prop := lnG (decide (x = 0)) m0 m ∧ pm_fr sMo m0 m ∧
  ((x = 1 ∧ tK B T p = 3 ∧ mtk m B T (tN B T p)) ∨ (x = 0 ∧ ¬ tK B T p = 3 ∧ m.1 10009909 0 8 = 1 ∧ m.1 10009909 0 9 = nI (tS B T p)))
set_option maxRecDepth 100000 in
theorem sp_X9_readEnd (hx : txM mem0 T B) (h : mtk mem0 B T p) (hp : p ≤ T) : Cl yX9_readEnd cX9_readEnd 1 (some .boolean) 2 45 [pR 10009909 0] mem0 (fun r mem => ∃ x, r = some (pI x) ∧ EQ mem0 B T p x mem) := by
  refine Cl.of (own := RX9) rfl rfl (Nat.le_of_ble_eq_true rfl) rfl ?_; show PR _ _ _ _ _ _ [some _] _ _ _
  by_cases k : tK B T p = 3
  · have hN := tN_bd hp (by omega : 2 ≤ tK B T p)
    refine pr_aload_n 1 dX9_readEnd_0 rfl rfl rfl ?_
    refine pr_getI 4 dX9_readEnd_1 fX9_27 rfl ?_
    rw [h.1, k]
    refine pr_iconst (4) 5 dX9_readEnd_4 (by decide) rfl ?_
    refine pr_icmp_eq 14 8 dX9_readEnd_5 rfl rfl (fun c_5 => ?_) (fun c_5 => absurd (rfl) (c_5))
    refine pr_aload_n 15 dX9_readEnd_14 rfl rfl rfl ?_
    refine pr_inv0R0 18 dX9_readEnd_15 vX9_117 mX9_go (sp_X9_go hx.1 hx.2.1 hx.2.2.1 hx.2.2.2 hN.2.1 (h.2.2.1 (by omega))) ⟨Nat.le_of_ble_eq_true rfl, Nat.le_of_ble_eq_true rfl⟩ (Nat.le_of_ble_eq_true rfl) rfl (fun mem1 h1 => ?_)
    refine pr_iconst (1) 19 dX9_readEnd_18 (by decide) rfl ?_
    refine pr_zreturn dX9_readEnd_19 rfl (by first | exact Or.inl rfl | exact Or.inr rfl) ?_
    exact ⟨1, rfl, h1.1.ln, h1.1.1, Or.inl ⟨rfl, k, h1.2⟩⟩
  · have hms : ¬ nI (msort (tK B T p) T) = 4 := by
      unfold msort
      repeat' split
      all_goals first | decide | omega
    refine pr_aload_n 1 dX9_readEnd_0 rfl rfl rfl ?_
    refine pr_getI 4 dX9_readEnd_1 fX9_27 rfl ?_
    rw [h.1]
    refine pr_iconst (4) 5 dX9_readEnd_4 (by decide) rfl ?_
    refine pr_icmp_eq 14 8 dX9_readEnd_5 rfl rfl (fun c_5 => absurd (c_5) (hms)) (fun c_5 => ?_)
    refine pr_aload_n 9 dX9_readEnd_8 rfl rfl rfl ?_
    refine pr_iconst (1) 10 dX9_readEnd_9 (by decide) rfl ?_
    refine pr_invDR1 13 dX9_readEnd_10 vX9_110 mX9_bad (sp_X9_bad h 1) ⟨Nat.le_of_ble_eq_true rfl, Nat.le_of_ble_eq_true rfl⟩ (Nat.le_of_ble_eq_true rfl) rfl (fun mem1 h1 => ?_)
    refine pr_zreturn dX9_readEnd_13 rfl (by first | exact Or.inl rfl | exact Or.inr rfl) ?_
    refine ⟨0, rfl, h1.1.ln, h1.1.1, Or.inr ⟨rfl, k, ?_, h1.2.2.2⟩⟩
    have := h1.2.2.1
    rw [ite_self] at this
    exact this
def K0 : Nat → Nat := fun k => if 4 ≤ k ∧ k < 20 then 1 else 0
def s00 : RS := mkS K0 0 0 [] 0 0 0 (fun _ => (0, 0)) (fun _ => 0)
def sMx : Nat → Nat → Prop := fun t i => t ∈ [10009909, 20869372, 20869371] ∧ i = 0
/-- what holds behind a text -/
def xmP (m0 : pm_M) (B : Nat → Nat) (T : Nat) : Option pm_v → pm_M → Prop := fun r mem => ∃ res, Rd B T s00 0 res ∧ pm_fr sMx m0 mem ∧ mem.1 10009909 0 0 = 0 ∧ mem.1 10009909 0 2 = 0 ∧
  match res with
  | .ok s => r = some (pI (nI s.ln)) ∧ rowR 20869371 mem s.K ∧ mem.1 10009909 0 14 = 0 ∧ mem.1 10009909 0 8 = 0
  | .error e => r = some (pI (-1 - nI e.2)) ∧ mem.1 20869371 0 = m0.1 20869371 0 ∧ mem.1 10009909 0 14 = m0.1 10009909 0 14 ∧ mem.1 10009909 0 8 = nI e.1
set_option maxRecDepth 100000 in
theorem sp_X9_text (h : tapM mem0 T B) (hT : T ≤ 840) (hB : ∀ k, B k < 256) {I : RS → Nat → Prop} (hI : ∀ s p s', I s p → ¬ tK B T p = 0 → stp s (tK B T p) (tV B T p) = .ok s' → I s' (tN B T p)) (hI0 : I s00 0) (hIB : ∀ s p, I s p → s.w = 0 → RB s) : Cl yX9_text cX9_text 3 (some .int) 6 138 [pR 10009909 0] mem0 (xmP mem0 B T) := by
  obtain ⟨M1, hM1⟩ : ∃ M1, M1 = pm_uI (pm_uI (pm_uI (pm_uI (pm_uI mem0 10009909 0 0 0) 10009909 0 3 (nI T)) 10009909 0 2 0) 10009909 0 8 0) 10009909 0 4 0 := ⟨_, rfl⟩
  have f1 : pm_fr sMx mem0 M1 := by
    rw [hM1]
    exact ((((pm_fr.rf.uI ⟨by simp, rfl⟩).uI ⟨by simp, rfl⟩).uI ⟨by simp, rfl⟩).uI ⟨by simp, rfl⟩).uI ⟨by simp, rfl⟩
  have c1 : M1.1 10009909 0 0 = 0 := by rw [hM1, pm_gIn (by simp), pm_gIn (by simp), pm_gIn (by simp), pm_gIn (by simp), pm_gIe]
  have c2 : M1.1 10009909 0 3 = nI T := by rw [hM1, pm_gIn (by simp), pm_gIn (by simp), pm_gIn (by simp), pm_gIe]
  have c3 : M1.1 10009909 0 2 = 0 := by rw [hM1, pm_gIn (by simp), pm_gIn (by simp), pm_gIe]
  have c4 : M1.1 10009909 0 8 = 0 := by rw [hM1, pm_gIn (by simp), pm_gIe]
  have c5 : M1.1 10009909 0 4 = nI 0 := by rw [hM1, pm_gIe]; rfl
  have c6 : M1.1 10009909 0 14 = mem0.1 10009909 0 14 := by rw [hM1, pm_gIn (by simp), pm_gIn (by simp), pm_gIn (by simp), pm_gIn (by simp), pm_gIn (by simp)]
  have ht : ∀ k, k < T → M1.1 20840361 0 k = nI (B k) := by
    intro k hk
    rw [(f1 20840361 0 (by simp [sMx])).1]
    exact h.2 k hk
  have hnw : M1.1 20869371 0 = mem0.1 20869371 0 := by
    funext z
    rw [hM1, pm_gIn (by simp), pm_gIn (by simp), pm_gIn (by simp), pm_gIn (by simp), pm_gIn (by simp)]
  sorry
end MTX
