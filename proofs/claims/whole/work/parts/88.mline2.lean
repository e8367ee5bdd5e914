/-! the reference: the desk's line, a load's line -/
theorem stp_f {s : RS} {k v : Nat} (hw : ¬ s.w = 0) (hl : s.f.length < wnt s.w) : stp s k v = (fld s k v).map (push s) := by rw [stp, if_neg hw, if_pos hl]
section MLD
variable {mem mem0 : pm_M} {T p : Nat} {B : Nat → Nat} {s : RS}
set_option maxRecDepth 100000 in
theorem sp_X9_readDesk (hx : txM mem0 T B) (h : mtk mem0 B T p) (hp : p ≤ T) (hr : rowR 20869372 mem0 s.K) (hw : s.w = 0) (hln : s.ln = 0) (hk : tK B T p = 5) : Cl yX9_readDesk cX9_readDesk 2 (some .boolean) 3 69 [pR 10009909 0] mem0 (fun r mem => ∃ x, r = some (pI x) ∧ LQ mem0 B T s p x mem) := by
  have hN := tN_bd hp (by omega : 2 ≤ tK B T p)
  have hbeg : stp s 5 (tV B T p) = .ok (begL s 5) := by
    rw [stp, if_pos hw, if_neg (by simp [hln])]
    rfl
  have R1 : Rt B T s p (begL s 5) (tN B T p) := Rt.one (by omega) (by rw [hk]; exact hbeg)
  have F1 := fl_num (B := B) (T := T) (p := tN B T p) (s := begL s 5) (lo := 0) (hi := 999) (show ¬ 5 = 0 by decide) (show 0 < wnt 5 by decide) (fun _ _ => rfl) (by decide)
  refine Cl.of (own := RX9) rfl rfl (Nat.le_of_ble_eq_true rfl) rfl ?_; show PR _ _ _ _ _ _ [some _, none] _ _ _
  refine pr_aload_n 1 dX9_readDesk_0 rfl rfl rfl ?_
  refine pr_inv0R0 4 dX9_readDesk_1 vX9_117 mX9_go (sp_X9_go hx.1 hx.2.1 hx.2.2.1 hx.2.2.2 hN.2.1 (h.2.2.1 (by omega))) ⟨Nat.le_of_ble_eq_true rfl, Nat.le_of_ble_eq_true rfl⟩ (Nat.le_of_ble_eq_true rfl) rfl (fun mem1 h1 => ?_)
  obtain ⟨g1, m1⟩ := h1
  have x1 := hx.go g1
  refine pr_aload_n 5 dX9_readDesk_4 rfl rfl rfl ?_
  refine pr_iconst (0) 6 dX9_readDesk_5 (by decide) rfl ?_
  refine pr_sipush (999) 9 dX9_readDesk_6 (by decide) rfl ?_
  refine pr_iconst (2) 10 dX9_readDesk_9 (by decide) rfl ?_
  refine pr_invDR3 13 dX9_readDesk_10 vX9_120 mX9_told (sp_X9_told x1 m1 hN.2.1 (nI 0) (nI 999) 2) ⟨Nat.le_of_ble_eq_true rfl, Nat.le_of_ble_eq_true rfl⟩ (Nat.le_of_ble_eq_true rfl) rfl (fun mem2 h2 => ?_)
  by_cases o1 : tdOk B T (tN B T p) (nI 0) (nI 999)
  · rw [if_pos o1]
    rw [tdP, if_pos o1] at h2
    obtain ⟨g2, m2⟩ := h2
    have R2 := R1.tr (F1.1 o1)
    have v1 := tV_lt o1.1
    have hN2 := tN_bd hN.2.1 (by have := o1.1; omega : 2 ≤ tK B T (tN B T p))
    have r2 := goF.row (goF.row hr g1) g2
    refine pr_istore_n 14 dX9_readDesk_13 rfl (pm_st_1 rfl rfl) rfl ?_
    refine pr_aload_n 15 dX9_readDesk_14 rfl rfl rfl ?_
    refine pr_getR0 18 dX9_readDesk_15 fX9_67 rfl ?_
    refine pr_bipush (36) 20 dX9_readDesk_18 (by decide) rfl ?_
    refine pr_iload_n 21 dX9_readDesk_20 rfl rfl rfl ?_
    refine pr_iastore 36 22 dX9_readDesk_21 rfl rfl rfl (by omega) rfl ?_
    refine pr_iload_n 23 dX9_readDesk_22 rfl rfl rfl ?_
    refine pr_iconst (-1) 24 dX9_readDesk_23 (by decide) rfl ?_
    refine pr_icmp_eq 31 27 dX9_readDesk_24 rfl rfl (fun c_24 => absurd (c_24) (nI_nm (by omega))) (fun c_24 => ?_)
    refine pr_iconst (1) 28 dX9_readDesk_27 (by decide) rfl ?_
    refine pr_goto 32 dX9_readDesk_28 rfl ?_
    refine pr_zreturn dX9_readDesk_32 rfl (by first | exact Or.inl rfl | exact Or.inr rfl) ?_
    refine ⟨1, rfl, (g1.ln.tr g2.ln).u, Or.inl ⟨rfl, push (begL s 5) (tV B T (tN B T p)), _, R2, ?_, m2.u, hN2.2.1, (show ¬ 5 = 0 by decide), rfl, fun _ => rfl, fun a b => ?_⟩⟩
    · exact r2.w (k := 36) (v := tV B T (tN B T p)) (by omega) (by rw [cdI, if_neg (by omega)])
    · show (if tK B T _ = 3 then _ else _) = _
      rw [if_neg a]
  · rw [if_neg o1]
    rw [tdP, if_neg o1] at h2
    refine pr_istore_n 14 dX9_readDesk_13 rfl (pm_st_1 rfl rfl) rfl ?_
    refine pr_aload_n 15 dX9_readDesk_14 rfl rfl rfl ?_
    refine pr_getR0 18 dX9_readDesk_15 fX9_67 rfl ?_
    refine pr_bipush (36) 20 dX9_readDesk_18 (by decide) rfl ?_
    refine pr_iload_n 21 dX9_readDesk_20 rfl rfl rfl ?_
    refine pr_iastore 36 22 dX9_readDesk_21 rfl rfl rfl (by omega) rfl ?_
    refine pr_iload_n 23 dX9_readDesk_22 rfl rfl rfl ?_
    refine pr_iconst (-1) 24 dX9_readDesk_23 (by decide) rfl ?_
    refine pr_icmp_eq 31 27 dX9_readDesk_24 rfl rfl (fun c_24 => ?_) (fun c_24 => absurd (rfl) (c_24))
    refine pr_iconst (0) 32 dX9_readDesk_31 (by decide) rfl ?_
    refine pr_zreturn dX9_readDesk_32 rfl (by first | exact Or.inl rfl | exact Or.inr rfl) ?_
    refine ⟨0, rfl, (g1.ln.tr h2.1.ln).u, Or.inr ⟨rfl, _, _, R1.1 _ (F1.2 o1), ?_, ?_⟩⟩
    · rw [pm_gIn (by simp)]; exact h2.2.1
    · rw [pm_gIn (by simp)]; exact h2.2.2
set_option maxRecDepth 100000 in
theorem sp_X9_readLoad (hx : txM mem0 T B) (h : mtk mem0 B T p) (hp : p ≤ T) (hr : rowR 20869372 mem0 s.K) (hw : s.w = 0) (hln : ¬ s.ln = 0) (hk : tK B T p = 8) (hb : s.K 39 ≤ 16) (hb2 : s.K 37 ≤ 12) : Cl yX9_readLoad cX9_readLoad 5 (some .boolean) 4 89 [pR 10009909 0] mem0 (fun r mem => ∃ x, r = some (pI x) ∧ LQ mem0 B T s p x mem) := by
  have hN := tN_bd hp (by omega : 2 ≤ tK B T p)
  refine Cl.of (own := RX9) rfl rfl (Nat.le_of_ble_eq_true rfl) rfl ?_; show PR _ _ _ _ _ _ [some _, none, none, none, none] _ _ _
  by_cases full : s.K 39 = 16
  · refine pr_aload_n 1 dX9_readLoad_0 rfl rfl rfl ?_
    refine pr_getR0 4 dX9_readLoad_1 fX9_67 rfl ?_
    refine pr_bipush (39) 6 dX9_readLoad_4 (by decide) rfl ?_
    refine pr_iaload 39 7 dX9_readLoad_6 rfl rfl rfl (by omega) rfl ?_
    rw [hr.1 39 (by omega) (by omega), full]
    refine pr_istore_n 8 dX9_readLoad_7 rfl (pm_st_1 rfl rfl) rfl ?_
    refine pr_iload_n 9 dX9_readLoad_8 rfl rfl rfl ?_
    refine pr_bipush (16) 11 dX9_readLoad_9 (by decide) rfl ?_
    refine pr_icmp_ne 20 14 dX9_readLoad_11 rfl rfl (fun c_11 => absurd (rfl) (c_11)) (fun c_11 => ?_)
    refine pr_aload_n 15 dX9_readLoad_14 rfl rfl rfl ?_
    refine pr_iconst (4) 16 dX9_readLoad_15 (by decide) rfl ?_
    refine pr_invDR1 19 dX9_readLoad_16 vX9_110 mX9_bad (sp_X9_bad h 4) ⟨Nat.le_of_ble_eq_true rfl, Nat.le_of_ble_eq_true rfl⟩ (Nat.le_of_ble_eq_true rfl) rfl (fun mem1 h1 => ?_)
    refine pr_zreturn dX9_readLoad_19 rfl (by first | exact Or.inl rfl | exact Or.inr rfl) ?_
    refine ⟨0, rfl, h1.1.ln, Or.inr ⟨rfl, 4, tS B T p, Rd.bad (by omega) ?_, ?_, h1.2.2.2⟩⟩
    · rw [hk, stp, if_pos hw, if_neg (by omega)]
      simp [full]
    · have := h1.2.2.1
      rw [hk] at this
      exact this
  have hbeg : stp s 8 (tV B T p) = .ok (begL s 8) := by
    rw [stp, if_pos hw, if_neg (by omega)]
    simp [show s.K 39 < 16 by omega]
  have R1 : Rt B T s p (begL s 8) (tN B T p) := Rt.one (by omega) (by rw [hk]; exact hbeg)
  have F1 := fl_num (B := B) (T := T) (p := tN B T p) (s := begL s 8) (lo := 1) (hi := 99) (show ¬ 8 = 0 by decide) (show 0 < wnt 8 by decide) (fun _ _ => rfl) (by decide)
  have head : ∀ X, (∀ mem1, goF mem0 mem1 → mtk mem1 B T (tN B T p) → PR cX9_readLoad RX9 5 4 89 24 [some (pR 10009909 0), some (pI (nI (s.K 39))), none, none, none] [] mem1 X) → PR cX9_readLoad RX9 5 4 89 0 [some (pR 10009909 0), none, none, none, none] [] mem0 X := by
    intro X hX
    refine pr_aload_n 1 dX9_readLoad_0 rfl rfl rfl ?_
    refine pr_getR0 4 dX9_readLoad_1 fX9_67 rfl ?_
    refine pr_bipush (39) 6 dX9_readLoad_4 (by decide) rfl ?_
    refine pr_iaload 39 7 dX9_readLoad_6 rfl rfl rfl (by omega) rfl ?_
    rw [hr.1 39 (by omega) (by omega)]
    refine pr_istore_n 8 dX9_readLoad_7 rfl (pm_st_1 rfl rfl) rfl ?_
    refine pr_iload_n 9 dX9_readLoad_8 rfl rfl rfl ?_
    refine pr_bipush (16) 11 dX9_readLoad_9 (by decide) rfl ?_
    refine pr_icmp_ne 20 14 dX9_readLoad_11 rfl rfl (fun c_11 => ?_) (fun c_11 => absurd (c_11) (fun z => full ((nI_eq (b := 16) (by omega) (by omega)).mp z)))
    refine pr_aload_n 21 dX9_readLoad_20 rfl rfl rfl ?_
    refine pr_inv0R0 24 dX9_readLoad_21 vX9_117 mX9_go (sp_X9_go hx.1 hx.2.1 hx.2.2.1 hx.2.2.2 hN.2.1 (h.2.2.1 (by omega))) ⟨Nat.le_of_ble_eq_true rfl, Nat.le_of_ble_eq_true rfl⟩ (Nat.le_of_ble_eq_true rfl) rfl (fun mem1 h1 => ?_)
    exact hX mem1 h1.1 h1.2
  refine head _ (fun mem1 g1 m1 => ?_)
  have x1 := hx.go g1
  by_cases o1 : tdOk B T (tN B T p) (nI 1) (nI 99)
  case neg =>
    refine pr_aload_n 25 dX9_readLoad_24 rfl rfl rfl ?_
    refine pr_iconst (1) 26 dX9_readLoad_25 (by decide) rfl ?_
    refine pr_bipush (99) 28 dX9_readLoad_26 (by decide) rfl ?_
    refine pr_iconst (2) 29 dX9_readLoad_28 (by decide) rfl ?_
    refine pr_invDR3 32 dX9_readLoad_29 vX9_120 mX9_told (sp_X9_told x1 m1 hN.2.1 (nI 1) (nI 99) 2) ⟨Nat.le_of_ble_eq_true rfl, Nat.le_of_ble_eq_true rfl⟩ (Nat.le_of_ble_eq_true rfl) rfl (fun mem2 h2 => ?_)
    rw [if_neg o1]
    rw [tdP, if_neg o1] at h2
    refine pr_istore_n 33 dX9_readLoad_32 rfl (pm_st_2 rfl rfl) rfl ?_
    refine pr_iload_n 34 dX9_readLoad_33 rfl rfl rfl ?_
    refine pr_iconst (-1) 35 dX9_readLoad_34 (by decide) rfl ?_
    refine pr_icmp_ne 42 38 dX9_readLoad_35 rfl rfl (fun c_35 => absurd (rfl) (c_35)) (fun c_35 => ?_)
    refine pr_iconst (-1) 39 dX9_readLoad_38 (by decide) rfl ?_
    refine pr_goto 46 dX9_readLoad_39 rfl ?_
    refine pr_istore_n 47 dX9_readLoad_46 rfl (pm_st_3 rfl rfl) rfl ?_
    refine pr_iload_n 48 dX9_readLoad_47 rfl rfl rfl ?_
    refine pr_iconst (-1) 49 dX9_readLoad_48 (by decide) rfl ?_
    refine pr_icmp_ne 54 52 dX9_readLoad_49 rfl rfl (fun c_49 => absurd (rfl) (c_49)) (fun c_49 => ?_)
    refine pr_iconst (0) 53 dX9_readLoad_52 (by decide) rfl ?_
    refine pr_zreturn dX9_readLoad_53 rfl (by first | exact Or.inl rfl | exact Or.inr rfl) ?_
    exact ⟨0, rfl, (g1.ln.tr h2.1.ln), Or.inr ⟨rfl, _, _, R1.1 _ (F1.2 o1), h2.2.1, h2.2.2⟩⟩
  have R2 := R1.tr (F1.1 o1)
  have v1 := tV_lt o1.1
  have hN2 := tN_bd hN.2.1 (by have := o1.1; omega : 2 ≤ tK B T (tN B T p))
  have F2 := fl_tol (B := B) (T := T) (p := tN B T (tN B T p)) (s := push (begL s 8) (tV B T (tN B T p))) (c := s.K 37) (show ¬ 8 = 0 by decide) (show 1 < wnt 8 by decide) (fun _ => rfl) (by omega)
  -- behind the weight
  have st2 : ∀ mem2, goF mem0 mem2 → mtk mem2 B T (tN B T (tN B T p)) → PR cX9_readLoad RX9 5 4 89 42 [some (pR 10009909 0), some (pI (nI (s.K 39))), some (pI (nI (tV B T (tN B T p)))), none, none] [] mem2 (pm_RX cX9_readLoad (some .boolean) (fun r mem => ∃ x, r = some (pI x) ∧ LQ mem0 B T s p x mem)) := by
    intro mem2 g2 m2
    have x2 := hx.go g2
    have r2 := goF.row hr g2
    by_cases o2 : tdOk B T (tN B T (tN B T p)) 0 (nI (s.K 37) - 1)
    case neg =>
      refine pr_aload_n 43 dX9_readLoad_42 rfl rfl rfl ?_
      refine pr_invDR0 46 dX9_readLoad_43 vX9_124 mX9_toldPlace (sp_X9_toldPlace x2 m2 hN2.2.1 r2) ⟨Nat.le_of_ble_eq_true rfl, Nat.le_of_ble_eq_true rfl⟩ (Nat.le_of_ble_eq_true rfl) rfl (fun mem3 h3 => ?_)
      rw [if_neg o2]
      rw [tdP, if_neg o2] at h3
      refine pr_istore_n 47 dX9_readLoad_46 rfl (pm_st_3 rfl rfl) rfl ?_
      refine pr_iload_n 48 dX9_readLoad_47 rfl rfl rfl ?_
      refine pr_iconst (-1) 49 dX9_readLoad_48 (by decide) rfl ?_
      refine pr_icmp_ne 54 52 dX9_readLoad_49 rfl rfl (fun c_49 => absurd (rfl) (c_49)) (fun c_49 => ?_)
      refine pr_iconst (0) 53 dX9_readLoad_52 (by decide) rfl ?_
      refine pr_zreturn dX9_readLoad_53 rfl (by first | exact Or.inl rfl | exact Or.inr rfl) ?_
      exact ⟨0, rfl, (g2.ln.tr h3.1.ln), Or.inr ⟨rfl, _, _, R2.1 _ (F2.2 o2), h3.2.1, h3.2.2⟩⟩
    have R3 := R2.tr (F2.1 o2)
    have v2 := tV_lt o2.1
    have hN3 := tN_bd hN2.2.1 (by have := o2.1; omega : 2 ≤ tK B T (tN B T (tN B T p)))
    refine pr_aload_n 43 dX9_readLoad_42 rfl rfl rfl ?_
    refine pr_invDR0 46 dX9_readLoad_43 vX9_124 mX9_toldPlace (sp_X9_toldPlace x2 m2 hN2.2.1 r2) ⟨Nat.le_of_ble_eq_true rfl, Nat.le_of_ble_eq_true rfl⟩ (Nat.le_of_ble_eq_true rfl) rfl (fun mem3 h3 => ?_)
    rw [if_pos o2]
    rw [tdP, if_pos o2] at h3
    obtain ⟨g3, m3⟩ := h3
    have g03 := g2.tr g3
    have x3 := hx.go g03
    have r3 := goF.row hr g03
    refine pr_istore_n 47 dX9_readLoad_46 rfl (pm_st_3 rfl rfl) rfl ?_
    refine pr_iload_n 48 dX9_readLoad_47 rfl rfl rfl ?_
    refine pr_iconst (-1) 49 dX9_readLoad_48 (by decide) rfl ?_
    refine pr_icmp_ne 54 52 dX9_readLoad_49 rfl rfl (fun c_49 => ?_) (fun c_49 => absurd (c_49) (nI_nm (by omega)))
    by_cases al : tK B T (tN B T (tN B T (tN B T p))) = 2 ∧ tV B T (tN B T (tN B T (tN B T p))) = tV B T (tN B T (tN B T p))
    · have hms : msort (tK B T (tN B T (tN B T (tN B T p)))) T = 3 := by rw [al.1]; rfl
      refine pr_aload_n 55 dX9_readLoad_54 rfl rfl rfl ?_
      refine pr_getI 58 dX9_readLoad_55 fX9_27 rfl ?_
      rw [m3.1, hms]
      refine pr_iconst (3) 59 dX9_readLoad_58 (by decide) rfl ?_
      refine pr_icmp_ne 76 62 dX9_readLoad_59 rfl rfl (fun c_59 => absurd (rfl) (c_59)) (fun c_59 => ?_)
      refine pr_aload_n 63 dX9_readLoad_62 rfl rfl rfl ?_
      refine pr_getI 66 dX9_readLoad_63 fX9_41 rfl ?_
      rw [m3.2.2.2.1 al.1, al.2]
      refine pr_iload_n 67 dX9_readLoad_66 rfl rfl rfl ?_
      refine pr_icmp_ne 76 70 dX9_readLoad_67 rfl rfl (fun c_67 => absurd (rfl) (c_67)) (fun c_67 => ?_)
      refine pr_aload_n 71 dX9_readLoad_70 rfl rfl rfl ?_
      refine pr_iconst (3) 72 dX9_readLoad_71 (by decide) rfl ?_
      refine pr_invDR1 75 dX9_readLoad_72 vX9_110 mX9_bad (sp_X9_bad m3 3) ⟨Nat.le_of_ble_eq_true rfl, Nat.le_of_ble_eq_true rfl⟩ (Nat.le_of_ble_eq_true rfl) rfl (fun mem4 h4 => ?_)
      refine pr_zreturn dX9_readLoad_75 rfl (by first | exact Or.inl rfl | exact Or.inr rfl) ?_
      refine ⟨0, rfl, (g03.ln.tr h4.1.ln), Or.inr ⟨rfl, 3, _, R3.1 _ (Rd.bad (by omega) ?_), ?_, h4.2.2.2⟩⟩
      · rw [stp_f (s := push (push (begL s 8) (tV B T (tN B T p))) (tV B T (tN B T (tN B T p)))) (show ¬ 8 = 0 by decide) (show 2 < wnt 8 by decide)]
        have e : fld (push (push (begL s 8) (tV B T (tN B T p))) (tV B T (tN B T (tN B T p)))) (tK B T (tN B T (tN B T (tN B T p)))) (tV B T (tN B T (tN B T (tN B T p)))) = if tK B T (tN B T (tN B T (tN B T p))) = 2 ∧ tV B T (tN B T (tN B T (tN B T p))) = tV B T (tN B T (tN B T p)) then .error 3 else tolF (s.K 37) (tK B T (tN B T (tN B T (tN B T p)))) (tV B T (tN B T (tN B T (tN B T p)))) := rfl
        rw [e, if_pos al]
        rfl
      · have := h4.2.2.1
        rw [hms] at this
        exact this
    · have F3 := fl_tol (B := B) (T := T) (p := tN B T (tN B T (tN B T p))) (s := push (push (begL s 8) (tV B T (tN B T p))) (tV B T (tN B T (tN B T p)))) (c := s.K 37) (show ¬ 8 = 0 by decide) (show 2 < wnt 8 by decide) (fun _ => by
        have e : fld (push (push (begL s 8) (tV B T (tN B T p))) (tV B T (tN B T (tN B T p)))) (tK B T (tN B T (tN B T (tN B T p)))) (tV B T (tN B T (tN B T (tN B T p)))) = if tK B T (tN B T (tN B T (tN B T p))) = 2 ∧ tV B T (tN B T (tN B T (tN B T p))) = tV B T (tN B T (tN B T p)) then .error 3 else tolF (s.K 37) (tK B T (tN B T (tN B T (tN B T p)))) (tV B T (tN B T (tN B T (tN B T p)))) := rfl
        rw [e, if_neg al]) (by omega)
      have tail : PR cX9_readLoad RX9 5 4 89 76 [some (pR 10009909 0), some (pI (nI (s.K 39))), some (pI (nI (tV B T (tN B T p)))), some (pI (nI (tV B T (tN B T (tN B T p))))), none] [] mem3 (pm_RX cX9_readLoad (some .boolean) (fun r mem => ∃ x, r = some (pI x) ∧ LQ mem0 B T s p x mem)) := by
        by_cases o3 : tdOk B T (tN B T (tN B T (tN B T p))) 0 (nI (s.K 37) - 1)
        · have R4 := R3.tr (F3.1 o3)
          have v3 := tV_lt o3.1
          have hN4 := tN_bd hN3.2.1 (by have := o3.1; omega : 2 ≤ tK B T (tN B T (tN B T (tN B T p))))
          refine pr_aload_n 77 dX9_readLoad_76 rfl rfl rfl ?_
          refine pr_invDR0 80 dX9_readLoad_77 vX9_124 mX9_toldPlace (sp_X9_toldPlace x3 m3 hN3.2.1 r3) ⟨Nat.le_of_ble_eq_true rfl, Nat.le_of_ble_eq_true rfl⟩ (Nat.le_of_ble_eq_true rfl) rfl (fun mem4 h4 => ?_)
          rw [if_pos o3]
          rw [tdP, if_pos o3] at h4
          obtain ⟨g4, m4⟩ := h4
          have r4 := goF.row r3 g4
          refine pr_istore 82 dX9_readLoad_80 (pm_st_4 rfl rfl) rfl ?_
          refine pr_iload 84 dX9_readLoad_82 rfl rfl ?_
          refine pr_iconst (-1) 85 dX9_readLoad_84 (by decide) rfl ?_
          refine pr_icmp_ne 90 88 dX9_readLoad_85 rfl rfl (fun c_85 => ?_) (fun c_85 => absurd (c_85) (nI_nm (by omega)))
          refine pr_aload_n 91 dX9_readLoad_90 rfl rfl rfl ?_
          refine pr_getR0 94 dX9_readLoad_91 fX9_67 rfl ?_
          refine pr_bipush (20) 96 dX9_readLoad_94 (by decide) rfl ?_
          refine pr_iload_n 97 dX9_readLoad_96 rfl rfl rfl ?_
          refine pr_iadd 98 dX9_readLoad_97 rfl ?_
          refine pr_iload_n 99 dX9_readLoad_98 rfl rfl rfl ?_
          refine pr_iastore (20 + s.K 39) 100 dX9_readLoad_99 rfl rfl (nI_add 20 _) (by omega) rfl ?_
          refine pr_aload_n 101 dX9_readLoad_100 rfl rfl rfl ?_
          refine pr_getR0 104 dX9_readLoad_101 fX9_67 rfl ?_
          refine pr_bipush (69) 106 dX9_readLoad_104 (by decide) rfl ?_
          refine pr_iload_n 107 dX9_readLoad_106 rfl rfl rfl ?_
          refine pr_iadd 108 dX9_readLoad_107 rfl ?_
          refine pr_iload_n 109 dX9_readLoad_108 rfl rfl rfl ?_
          refine pr_iastore (69 + s.K 39) 110 dX9_readLoad_109 rfl rfl (nI_add 69 _) (by omega) rfl ?_
          refine pr_aload_n 111 dX9_readLoad_110 rfl rfl rfl ?_
          refine pr_getR0 114 dX9_readLoad_111 fX9_67 rfl ?_
          refine pr_bipush (85) 116 dX9_readLoad_114 (by decide) rfl ?_
          refine pr_iload_n 117 dX9_readLoad_116 rfl rfl rfl ?_
          refine pr_iadd 118 dX9_readLoad_117 rfl ?_
          refine pr_iload 120 dX9_readLoad_118 rfl rfl ?_
          refine pr_iastore (85 + s.K 39) 121 dX9_readLoad_120 rfl rfl (nI_add 85 _) (by omega) rfl ?_
          refine pr_aload_n 122 dX9_readLoad_121 rfl rfl rfl ?_
          refine pr_getR0 125 dX9_readLoad_122 fX9_67 rfl ?_
          refine pr_bipush (39) 127 dX9_readLoad_125 (by decide) rfl ?_
          refine pr_dup2 rfl rfl 128 dX9_readLoad_127 rfl ?_
          refine pr_iaload 39 129 dX9_readLoad_128 rfl rfl rfl (by omega) rfl ?_
          rw [pm_gIn (by simp; omega), pm_gIn (by simp; omega), pm_gIn (by simp; omega), r4.1 39 (by omega) (by omega)]
          refine pr_iconst (1) 130 dX9_readLoad_129 (by decide) rfl ?_
          refine pr_iadd 131 dX9_readLoad_130 rfl ?_
          rw [nI_1]
          refine pr_iastore 39 132 dX9_readLoad_131 rfl rfl rfl (by omega) rfl ?_
          refine pr_iconst (1) 133 dX9_readLoad_132 (by decide) rfl ?_
          refine pr_zreturn dX9_readLoad_133 rfl (by first | exact Or.inl rfl | exact Or.inr rfl) ?_
          refine ⟨1, rfl, ((g03.ln.tr g4.ln).u.u).u.u, Or.inl ⟨rfl, push (push (push (begL s 8) (tV B T (tN B T p))) (tV B T (tN B T (tN B T p)))) (tV B T (tN B T (tN B T (tN B T p)))), _, R4, ?_, m4.u.u.u.u, hN4.2.1, (show ¬ 8 = 0 by decide), rfl, fun _ => rfl, fun a b => ?_⟩⟩
          · exact (((r4.w (k := 20 + s.K 39) (v := tV B T (tN B T p)) (by omega) (by rw [cdI, if_neg (by omega)])).w (k := 69 + s.K 39) (v := tV B T (tN B T (tN B T p))) (by omega) (by rw [cdI, if_neg (by omega)])).w (k := 85 + s.K 39) (v := tV B T (tN B T (tN B T (tN B T p)))) (by omega) (by rw [cdI, if_neg (by omega)])).w (k := 39) (v := s.K 39 + 1) (by omega) (by rw [cdI, if_neg (by omega)])
          · show (if tK B T _ = 3 then _ else _) = _
            rw [if_neg a]
        · refine pr_aload_n 77 dX9_readLoad_76 rfl rfl rfl ?_
          refine pr_invDR0 80 dX9_readLoad_77 vX9_124 mX9_toldPlace (sp_X9_toldPlace x3 m3 hN3.2.1 r3) ⟨Nat.le_of_ble_eq_true rfl, Nat.le_of_ble_eq_true rfl⟩ (Nat.le_of_ble_eq_true rfl) rfl (fun mem4 h4 => ?_)
          rw [if_neg o3]
          rw [tdP, if_neg o3] at h4
          refine pr_istore 82 dX9_readLoad_80 (pm_st_4 rfl rfl) rfl ?_
          refine pr_iload 84 dX9_readLoad_82 rfl rfl ?_
          refine pr_iconst (-1) 85 dX9_readLoad_84 (by decide) rfl ?_
          refine pr_icmp_ne 90 88 dX9_readLoad_85 rfl rfl (fun c_85 => absurd (rfl) (c_85)) (fun c_85 => ?_)
          refine pr_iconst (0) 89 dX9_readLoad_88 (by decide) rfl ?_
          refine pr_zreturn dX9_readLoad_89 rfl (by first | exact Or.inl rfl | exact Or.inr rfl) ?_
          exact ⟨0, rfl, (g03.ln.tr h4.1.ln), Or.inr ⟨rfl, _, _, R3.1 _ (F3.2 o3), h4.2.1, h4.2.2⟩⟩
      by_cases k2 : tK B T (tN B T (tN B T (tN B T p))) = 2
      · have hms : msort (tK B T (tN B T (tN B T (tN B T p)))) T = 3 := by rw [k2]; rfl
        have v3 := tV_lt k2
        refine pr_aload_n 55 dX9_readLoad_54 rfl rfl rfl ?_
        refine pr_getI 58 dX9_readLoad_55 fX9_27 rfl ?_
        rw [m3.1, hms]
        refine pr_iconst (3) 59 dX9_readLoad_58 (by decide) rfl ?_
        refine pr_icmp_ne 76 62 dX9_readLoad_59 rfl rfl (fun c_59 => absurd (rfl) (c_59)) (fun c_59 => ?_)
        refine pr_aload_n 63 dX9_readLoad_62 rfl rfl rfl ?_
        refine pr_getI 66 dX9_readLoad_63 fX9_41 rfl ?_
        rw [m3.2.2.2.1 k2]
        refine pr_iload_n 67 dX9_readLoad_66 rfl rfl rfl ?_
        refine pr_icmp_ne 76 70 dX9_readLoad_67 rfl rfl (fun c_67 => ?_) (fun c_67 => absurd (c_67) (fun z => al ⟨k2, (nI_eq (by omega) (by omega)).mp z⟩))
        exact tail
      · have hm : ¬ nI (msort (tK B T (tN B T (tN B T (tN B T p)))) T) = 3 := by
          unfold msort
          repeat' split
          all_goals first | decide | omega
        refine pr_aload_n 55 dX9_readLoad_54 rfl rfl rfl ?_
        refine pr_getI 58 dX9_readLoad_55 fX9_27 rfl ?_
        rw [m3.1]
        refine pr_iconst (3) 59 dX9_readLoad_58 (by decide) rfl ?_
        refine pr_icmp_ne 76 62 dX9_readLoad_59 rfl rfl (fun c_59 => ?_) (fun c_59 => absurd (c_59) (hm))
        exact tail
  refine pr_aload_n 25 dX9_readLoad_24 rfl rfl rfl ?_
  refine pr_iconst (1) 26 dX9_readLoad_25 (by decide) rfl ?_
  refine pr_bipush (99) 28 dX9_readLoad_26 (by decide) rfl ?_
  refine pr_iconst (2) 29 dX9_readLoad_28 (by decide) rfl ?_
  refine pr_invDR3 32 dX9_readLoad_29 vX9_120 mX9_told (sp_X9_told x1 m1 hN.2.1 (nI 1) (nI 99) 2) ⟨Nat.le_of_ble_eq_true rfl, Nat.le_of_ble_eq_true rfl⟩ (Nat.le_of_ble_eq_true rfl) rfl (fun mem2 h2 => ?_)
  rw [if_pos o1]
  rw [tdP, if_pos o1] at h2
  obtain ⟨g2, m2⟩ := h2
  refine pr_istore_n 33 dX9_readLoad_32 rfl (pm_st_2 rfl rfl) rfl ?_
  refine pr_iload_n 34 dX9_readLoad_33 rfl rfl rfl ?_
  refine pr_iconst (-1) 35 dX9_readLoad_34 (by decide) rfl ?_
  refine pr_icmp_ne 42 38 dX9_readLoad_35 rfl rfl (fun c_35 => ?_) (fun c_35 => absurd (c_35) (nI_nm (by omega)))
  exact st2 mem2 (g1.tr g2) m2
end MLD
