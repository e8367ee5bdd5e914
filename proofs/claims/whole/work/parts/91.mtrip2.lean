/-! the reference: a trip's line from its begin -/
section MTB
variable {mem mem0 : pm_M} {T p : Nat} {B : Nat → Nat} {s : RS}
theorem fl_fuel (hw : s.w = 9) (hl : s.f.length = 1) (hk : ¬ tK B T p = 10) : (tdOk B T p (nI 0) (nI 9999) → Rt B T s p (push s (tV B T p + 1)) (tN B T p)) ∧ (¬ tdOk B T p (nI 0) (nI 9999) → Rd B T s p (.error (if tK B T p = 2 then 2 else 1, tS B T p))) := by
  have hs : stp s (tK B T p) (tV B T p) = ((numF 0 9999 (tK B T p) (tV B T p)).map (fun x => x + 1)).map (push s) := by
    rw [stp_f (by omega) (by rw [hw, hl]; decide)]
    congr 1
    unfold fld
    rw [if_neg (by omega), if_neg (by omega), if_neg (by omega), if_neg (by omega), if_neg (by omega), if_pos hl, if_neg hk]
  refine ⟨fun h => ?_, fun h => ?_⟩
  · have hv := tV_lt h.1
    rw [tdOk, nI_leI (by omega) (by omega), nI_leI (by omega) (by omega)] at h
    refine Rt.one (by omega) ?_
    rw [hs, numF, if_pos h.1, if_pos h.2]
    rfl
  · by_cases k0 : tK B T p = 0
    · rw [if_neg (by omega)]
      exact Rd.cut k0 (fun z => by omega)
    · refine Rd.bad k0 ?_
      rw [hs, numF]
      by_cases k2 : tK B T p = 2
      · have hv := tV_lt k2
        rw [tdOk, nI_leI (by omega) (by omega), nI_leI (by omega) (by omega)] at h
        rw [if_pos k2, if_neg (fun z => h ⟨k2, z⟩), if_pos k2]
        rfl
      · rw [if_neg k2, if_neg k2]
        rfl
set_option maxRecDepth 100000 in
theorem sp_X9_readTrip (hx : txM mem0 T B) (h : mtk mem0 B T p) (hp : p ≤ T) (hr : rowR 20869372 mem0 s.K) (hw : s.w = 0) (hln : ¬ s.ln = 0) (hk : tK B T p = 9) (hb : s.K 40 ≤ 16) (hb8 : s.K 38 ≤ 4) (hb7 : s.K 37 ≤ 12) (hb9 : s.K 39 ≤ 16) (hP : ∀ q, q < 12 → s.K (41 + q) ≤ 99 ∧ s.K (53 + q) ≤ 99) : Cl yX9_readTrip cX9_readTrip 9 (some .boolean) 4 89 [pR 10009909 0] mem0 (fun r mem => ∃ x, r = some (pI x) ∧ LQ mem0 B T s p x mem) := by
  have hN := tN_bd hp (by omega : 2 ≤ tK B T p)
  have hB := hx.2.2.2
  refine Cl.of (own := RX9) rfl rfl (Nat.le_of_ble_eq_true rfl) rfl ?_; show PR _ _ _ _ _ _ [some _, none, none, none, none, none, none, none, none] _ _ _
  by_cases full : s.K 40 = 16
  · refine pr_aload_n 1 dX9_readTrip_0 rfl rfl rfl ?_
    refine pr_getR0 4 dX9_readTrip_1 fX9_67 rfl ?_
    refine pr_bipush (40) 6 dX9_readTrip_4 (by decide) rfl ?_
    refine pr_iaload 40 7 dX9_readTrip_6 rfl rfl rfl (by omega) rfl ?_
    rw [hr.1 40 (by omega) (by omega), full]
    refine pr_istore_n 8 dX9_readTrip_7 rfl (pm_st_1 rfl rfl) rfl ?_
    refine pr_iload_n 9 dX9_readTrip_8 rfl rfl rfl ?_
    refine pr_bipush (16) 11 dX9_readTrip_9 (by decide) rfl ?_
    refine pr_icmp_ne 20 14 dX9_readTrip_11 rfl rfl (fun c_11 => absurd (rfl) (c_11)) (fun c_11 => ?_)
    refine pr_aload_n 15 dX9_readTrip_14 rfl rfl rfl ?_
    refine pr_iconst (4) 16 dX9_readTrip_15 (by decide) rfl ?_
    refine pr_invDR1 19 dX9_readTrip_16 vX9_110 mX9_bad (sp_X9_bad h 4) ⟨Nat.le_of_ble_eq_true rfl, Nat.le_of_ble_eq_true rfl⟩ (Nat.le_of_ble_eq_true rfl) rfl (fun mem1 h1 => ?_)
    refine pr_zreturn dX9_readTrip_19 rfl (by first | exact Or.inl rfl | exact Or.inr rfl) ?_
    refine ⟨0, rfl, h1.1.ln, Or.inr ⟨rfl, 4, tS B T p, Rd.bad (by omega) ?_, ?_, h1.2.2.2⟩⟩
    · rw [hk, stp, if_pos hw, if_neg (by omega)]
      simp [full]
    · have := h1.2.2.1
      rw [hk] at this
      exact this
  have hbeg : stp s 9 (tV B T p) = .ok (begL s 9) := by
    rw [stp, if_pos hw, if_neg (by omega)]
    simp [show s.K 40 < 16 by omega]
  have R1 : Rt B T s p (begL s 9) (tN B T p) := Rt.one (by omega) (by rw [hk]; exact hbeg)
  have F1 := fl_tol (B := B) (T := T) (p := tN B T p) (s := begL s 9) (c := s.K 38) (show ¬ 9 = 0 by decide) (show 0 < wnt 9 by decide) (fun _ => rfl) (by omega)
  obtain ⟨t, e40⟩ : ∃ t, s.K 40 = t := ⟨_, rfl⟩
  have ht : t < 16 := by omega
  have head : ∀ X, (∀ mem1, goF mem0 mem1 → mtk mem1 B T (tN B T p) → PR cX9_readTrip RX9 9 4 89 32 [some (pR 10009909 0), some (pI (nI t)), some (pI (nI (101 + 6 * t))), none, none, none, none, none, none] [] mem1 X) → PR cX9_readTrip RX9 9 4 89 0 [some (pR 10009909 0), none, none, none, none, none, none, none, none] [] mem0 X := by
    intro X hX
    refine pr_aload_n 1 dX9_readTrip_0 rfl rfl rfl ?_
    refine pr_getR0 4 dX9_readTrip_1 fX9_67 rfl ?_
    refine pr_bipush (40) 6 dX9_readTrip_4 (by decide) rfl ?_
    refine pr_iaload 40 7 dX9_readTrip_6 rfl rfl rfl (by omega) rfl ?_
    rw [hr.1 40 (by omega) (by omega), e40]
    refine pr_istore_n 8 dX9_readTrip_7 rfl (pm_st_1 rfl rfl) rfl ?_
    refine pr_iload_n 9 dX9_readTrip_8 rfl rfl rfl ?_
    refine pr_bipush (16) 11 dX9_readTrip_9 (by decide) rfl ?_
    refine pr_icmp_ne 20 14 dX9_readTrip_11 rfl rfl (fun c_11 => ?_) (fun c_11 => absurd (c_11) (fun z => full (by rw [e40]; exact (nI_eq (b := 16) (by omega) (by omega)).mp z)))
    refine pr_aload_n 21 dX9_readTrip_20 rfl rfl rfl ?_
    refine pr_inv0R0 24 dX9_readTrip_21 vX9_117 mX9_go (sp_X9_go hx.1 hx.2.1 hx.2.2.1 hx.2.2.2 hN.2.1 (h.2.2.1 (by omega))) ⟨Nat.le_of_ble_eq_true rfl, Nat.le_of_ble_eq_true rfl⟩ (Nat.le_of_ble_eq_true rfl) rfl (fun mem1 h1 => ?_)
    refine pr_bipush (101) 26 dX9_readTrip_24 (by decide) rfl ?_
    refine pr_bipush (6) 28 dX9_readTrip_26 (by decide) rfl ?_
    refine pr_iload_n 29 dX9_readTrip_28 rfl rfl rfl ?_
    refine pr_imul 30 dX9_readTrip_29 rfl ?_
    refine pr_iadd 31 dX9_readTrip_30 rfl ?_
    rw [show (101 : Int32) + 6 * nI t = nI (101 + 6 * t) by rw [← nI_add, ← nI_mulN]; rfl]
    refine pr_istore_n 32 dX9_readTrip_31 rfl (pm_st_2 rfl rfl) rfl ?_
    exact hX mem1 h1.1 h1.2
  refine head _ (fun mem1 g1 m1 => ?_)
  have x1 := hx.go g1
  have r1 := goF.row hr g1
  by_cases o1 : tdOk B T (tN B T p) 0 (nI (s.K 38) - 1)
  case neg =>
    refine pr_aload_n 33 dX9_readTrip_32 rfl rfl rfl ?_
    refine pr_iconst (0) 34 dX9_readTrip_33 (by decide) rfl ?_
    refine pr_aload_n 35 dX9_readTrip_34 rfl rfl rfl ?_
    refine pr_getR0 38 dX9_readTrip_35 fX9_67 rfl ?_
    refine pr_bipush (38) 40 dX9_readTrip_38 (by decide) rfl ?_
    refine pr_iaload 38 41 dX9_readTrip_40 rfl rfl rfl (by omega) rfl ?_
    rw [r1.1 38 (by omega) (by omega)]
    refine pr_iconst (1) 42 dX9_readTrip_41 (by decide) rfl ?_
    refine pr_isub 43 dX9_readTrip_42 rfl ?_
    refine pr_iconst (3) 44 dX9_readTrip_43 (by decide) rfl ?_
    refine pr_invDR3 47 dX9_readTrip_44 vX9_120 mX9_told (sp_X9_told x1 m1 hN.2.1 0 (nI (s.K 38) - 1) 3) ⟨Nat.le_of_ble_eq_true rfl, Nat.le_of_ble_eq_true rfl⟩ (Nat.le_of_ble_eq_true rfl) rfl (fun mem2 h2 => ?_)
    rw [if_neg o1]
    rw [tdP, if_neg o1] at h2
    refine pr_istore_n 48 dX9_readTrip_47 rfl (pm_st_3 rfl rfl) rfl ?_
    refine pr_iload_n 49 dX9_readTrip_48 rfl rfl rfl ?_
    refine pr_iconst (-1) 50 dX9_readTrip_49 (by decide) rfl ?_
    refine pr_icmp_ne 55 53 dX9_readTrip_50 rfl rfl (fun c_50 => absurd (rfl) (c_50)) (fun c_50 => ?_)
    refine pr_iconst (0) 54 dX9_readTrip_53 (by decide) rfl ?_
    refine pr_zreturn dX9_readTrip_54 rfl (by first | exact Or.inl rfl | exact Or.inr rfl) ?_
    exact ⟨0, rfl, (g1.ln.tr h2.1.ln), Or.inr ⟨rfl, _, _, R1.1 _ (F1.2 o1), h2.2.1, h2.2.2⟩⟩
  have R2 := R1.tr (F1.1 o1)
  obtain ⟨p2, ep2⟩ : ∃ p2, tN B T (tN B T p) = p2 := ⟨_, rfl⟩
  obtain ⟨v1, ev1⟩ : ∃ v1, tV B T (tN B T p) = v1 := ⟨_, rfl⟩
  have hv1 := tV_lt o1.1
  have hN2 := tN_bd hN.2.1 (by have := o1.1; omega : 2 ≤ tK B T (tN B T p))
  rw [ev1] at hv1 R2
  rw [ep2] at hN2 R2
  -- behind fuel: where it begins, then the steps
  have st4 : ∀ q x mem3 z4, q ≤ T → Rt B T s p (push (push (begL s 9) v1) x) q → lnG false mem0 mem3 → txM mem3 T B → mtk mem3 B T q → rowR 20869372 mem3 (up (up s.K (101 + 6 * t) v1) (4 + t) x) → PR cX9_readTrip RX9 9 4 89 125 [some (pR 10009909 0), some (pI (nI t)), some (pI (nI (101 + 6 * t))), some (pI (nI v1)), z4, none, none, none, none] [] mem3 (pm_RX cX9_readTrip (some .boolean) (fun r mem => ∃ x, r = some (pI x) ∧ LQ mem0 B T s p x mem)) := by
    intro q x mem3 z4 hq R3 F3 x3 m3 r3
    have F := fl_tol (B := B) (T := T) (p := q) (s := push (push (begL s 9) v1) x) (c := s.K 37) (show ¬ 9 = 0 by decide) (show 2 < wnt 9 by decide) (fun _ => rfl) (by omega)
    have hc := sp_X9_toldPlace x3 m3 hq r3
    rw [show up (up s.K (101 + 6 * t) v1) (4 + t) x 37 = s.K 37 by rw [up_ne (by omega), up_ne (by omega)]] at hc
    by_cases o : tdOk B T q 0 (nI (s.K 37) - 1)
    · have R4 := R3.tr (F.1 o)
      have k2 := o.1
      have hv := tV_lt k2
      have hv7 : tV B T q < s.K 37 := by
        have := o.2.2
        rw [Int32.le_iff_toInt_le, nIm1 (by omega), nI_toInt (by omega)] at this
        omega
      have hNq := tN_bd hq (by omega : 2 ≤ tK B T q)
      have eK : (push (push (push (begL s 9) v1) x) (tV B T q)).K = up (up (up (up s.K (101 + 6 * t) v1) (4 + t) x) (104 + 6 * t) (tV B T q)) (105 + 6 * t) (tV B T q) := by
        show trB s.K v1 x (tV B T q) = _
        rw [trB, e40]
      have hS : tpS (push (push (push (begL s 9) v1) x) (tV B T q)) t := by
        refine ⟨rfl, rfl, ?_, ht, ?_, ?_, ?_, fun j hj => ?_, show 0 < 65536 by omega⟩
        · rw [eK, up_ne (by omega), up_ne (by omega), up_ne (by omega), up_ne (by omega)]; exact e40
        · rw [eK, up_ne (by omega), up_ne (by omega), up_ne (by omega), up_ne (by omega)]; exact hb7
        · rw [eK, up_ne (by omega), up_ne (by omega), up_ne (by omega), up_ne (by omega)]; exact hb9
        · rw [eK, up_eq, up_ne (by omega), up_ne (by omega), up_ne (by omega), up_ne (by omega)]; exact hv7
        · rw [eK, up_ne (by omega), up_ne (by omega), up_ne (by omega), up_ne (by omega), up_ne (by omega), up_ne (by omega), up_ne (by omega), up_ne (by omega)]; exact hP j hj
      refine pr_aload_n 126 dX9_readTrip_125 rfl rfl rfl ?_
      refine pr_invDR0 129 dX9_readTrip_126 vX9_124 mX9_toldPlace (hc) ⟨Nat.le_of_ble_eq_true rfl, Nat.le_of_ble_eq_true rfl⟩ (Nat.le_of_ble_eq_true rfl) rfl (fun mem4 h4 => ?_)
      rw [if_pos o]
      rw [tdP, if_pos o] at h4
      obtain ⟨g4, m4⟩ := h4
      have r4 := goF.row r3 g4
      refine pr_istore 131 dX9_readTrip_129 (pm_st_4 rfl rfl) rfl ?_
      refine pr_iload 133 dX9_readTrip_131 rfl rfl ?_
      refine pr_iconst (-1) 134 dX9_readTrip_133 (by decide) rfl ?_
      refine pr_icmp_ne 139 137 dX9_readTrip_134 rfl rfl (fun c_134 => ?_) (fun c_134 => absurd (c_134) (nI_nm (by omega)))
      refine pr_aload_n 140 dX9_readTrip_139 rfl rfl rfl ?_
      refine pr_getR0 143 dX9_readTrip_140 fX9_67 rfl ?_
      refine pr_iload_n 144 dX9_readTrip_143 rfl rfl rfl ?_
      refine pr_iconst (3) 145 dX9_readTrip_144 (by decide) rfl ?_
      refine pr_iadd 146 dX9_readTrip_145 rfl ?_
      refine pr_iload 148 dX9_readTrip_146 rfl rfl ?_
      refine pr_iastore (104 + 6 * t) 149 dX9_readTrip_148 rfl rfl (by rw [show (3 : Int32) = nI 3 from rfl, nI_add]; congr 1; omega) (by omega) rfl ?_
      refine pr_aload_n 150 dX9_readTrip_149 rfl rfl rfl ?_
      refine pr_getR0 153 dX9_readTrip_150 fX9_67 rfl ?_
      refine pr_iload_n 154 dX9_readTrip_153 rfl rfl rfl ?_
      refine pr_iconst (4) 155 dX9_readTrip_154 (by decide) rfl ?_
      refine pr_iadd 156 dX9_readTrip_155 rfl ?_
      refine pr_iload 158 dX9_readTrip_156 rfl rfl ?_
      refine pr_iastore (105 + 6 * t) 159 dX9_readTrip_158 rfl rfl (by rw [show (4 : Int32) = nI 4 from rfl, nI_add]; congr 1; omega) (by omega) rfl ?_
      refine pr_iconst (0) 160 dX9_readTrip_159 (by decide) rfl ?_
      refine pr_istore 162 dX9_readTrip_160 (pm_st_5 rfl rfl) rfl ?_
      refine lp_X9_trip hB (T - tN B T q + 1) (tN B T q) (push (push (push (begL s 9) v1) x) (tV B T q)) _ _ _ _ _ (by omega) hNq.2.1 hS rfl rfl R4 (((F3.tr g4.ln).u).u) ((x3.go g4).ln (lnG.rf.u).u) ?_ (m4.u).u
      exact ((r4.w (k := 104 + 6 * t) (v := tV B T q) (by omega) (by rw [cdI, if_neg (by omega)])).w (k := 105 + 6 * t) (v := tV B T q) (by omega) (by rw [cdI, if_neg (by omega)])).cg eK.symm
    · refine pr_aload_n 126 dX9_readTrip_125 rfl rfl rfl ?_
      refine pr_invDR0 129 dX9_readTrip_126 vX9_124 mX9_toldPlace (hc) ⟨Nat.le_of_ble_eq_true rfl, Nat.le_of_ble_eq_true rfl⟩ (Nat.le_of_ble_eq_true rfl) rfl (fun mem4 h4 => ?_)
      rw [if_neg o]
      rw [tdP, if_neg o] at h4
      refine pr_istore 131 dX9_readTrip_129 (pm_st_4 rfl rfl) rfl ?_
      refine pr_iload 133 dX9_readTrip_131 rfl rfl ?_
      refine pr_iconst (-1) 134 dX9_readTrip_133 (by decide) rfl ?_
      refine pr_icmp_ne 139 137 dX9_readTrip_134 rfl rfl (fun c_134 => absurd (rfl) (c_134)) (fun c_134 => ?_)
      refine pr_iconst (0) 138 dX9_readTrip_137 (by decide) rfl ?_
      refine pr_zreturn dX9_readTrip_138 rfl (by first | exact Or.inl rfl | exact Or.inr rfl) ?_
      exact ⟨0, rfl, F3.tr h4.1.ln, Or.inr ⟨rfl, _, _, R3.1 _ (F.2 o), h4.2.1, h4.2.2⟩⟩
  -- behind the truck: fuel
  have st3 : ∀ mem2, lnG false mem0 mem2 → txM mem2 T B → mtk mem2 B T p2 → rowR 20869372 mem2 (up (up s.K (101 + 6 * t) v1) (4 + t) 0) → PR cX9_readTrip RX9 9 4 89 73 [some (pR 10009909 0), some (pI (nI t)), some (pI (nI (101 + 6 * t))), some (pI (nI v1)), none, none, none, none, none] [] mem2 (pm_RX cX9_readTrip (some .boolean) (fun r mem => ∃ x, r = some (pI x) ∧ LQ mem0 B T s p x mem)) := by
    intro mem2 F2 x2 m2 r2
    by_cases k10 : tK B T p2 = 10
    · have hNq := tN_bd hN2.2.1 (by omega : 2 ≤ tK B T p2)
      have R3 : Rt B T s p (push (push (begL s 9) v1) 0) (tN B T p2) := R2.tr (Rt.one (by omega) (by
        rw [k10, stp_f (s := push (begL s 9) v1) (show ¬ 9 = 0 by decide) (show 1 < wnt 9 by decide)]
        rfl))
      refine pr_aload_n 74 dX9_readTrip_73 rfl rfl rfl ?_
      refine pr_bipush (110) 76 dX9_readTrip_74 (by decide) rfl ?_
      refine pr_bipush (111) 78 dX9_readTrip_76 (by decide) rfl ?_
      refine pr_bipush (110) 80 dX9_readTrip_78 (by decide) rfl ?_
      refine pr_bipush (101) 82 dX9_readTrip_80 (by decide) rfl ?_
      refine pr_iconst (0) 83 dX9_readTrip_82 (by decide) rfl ?_
      refine pr_invD5 86 dX9_readTrip_83 vX9_136 mX9_is (sp_is_none m2 hB) ⟨Nat.le_of_ble_eq_true rfl, Nat.le_of_ble_eq_true rfl⟩ (Nat.le_of_ble_eq_true rfl) rfl ?_
      refine pr_if_eq 96 89 dX9_readTrip_86 rfl rfl (fun c_86 => absurd (c_86) (by rw [if_pos k10]; decide)) (fun c_86 => ?_)
      refine pr_aload_n 90 dX9_readTrip_89 rfl rfl rfl ?_
      refine pr_inv0R0 93 dX9_readTrip_90 vX9_117 mX9_go (sp_X9_go x2.1 x2.2.1 x2.2.2.1 x2.2.2.2 hNq.2.1 (m2.2.2.1 (by omega))) ⟨Nat.le_of_ble_eq_true rfl, Nat.le_of_ble_eq_true rfl⟩ (Nat.le_of_ble_eq_true rfl) rfl (fun mem3 h3 => ?_)
      refine pr_goto 125 dX9_readTrip_93 rfl ?_
      exact st4 (tN B T p2) 0 mem3 none hNq.2.1 R3 (F2.tr h3.1.ln) (x2.go h3.1) h3.2 (goF.row r2 h3.1)
    · have Ff := fl_fuel (B := B) (T := T) (p := p2) (s := push (begL s 9) v1) rfl rfl k10
      by_cases o : tdOk B T p2 (nI 0) (nI 9999)
      · have R3 := R2.tr (Ff.1 o)
        have hv := tV_lt o.1
        have hNq := tN_bd hN2.2.1 (by have := o.1; omega : 2 ≤ tK B T p2)
        refine pr_aload_n 74 dX9_readTrip_73 rfl rfl rfl ?_
        refine pr_bipush (110) 76 dX9_readTrip_74 (by decide) rfl ?_
        refine pr_bipush (111) 78 dX9_readTrip_76 (by decide) rfl ?_
        refine pr_bipush (110) 80 dX9_readTrip_78 (by decide) rfl ?_
        refine pr_bipush (101) 82 dX9_readTrip_80 (by decide) rfl ?_
        refine pr_iconst (0) 83 dX9_readTrip_82 (by decide) rfl ?_
        refine pr_invD5 86 dX9_readTrip_83 vX9_136 mX9_is (sp_is_none m2 hB) ⟨Nat.le_of_ble_eq_true rfl, Nat.le_of_ble_eq_true rfl⟩ (Nat.le_of_ble_eq_true rfl) rfl ?_
        refine pr_if_eq 96 89 dX9_readTrip_86 rfl rfl (fun c_86 => ?_) (fun c_86 => absurd (by rw [if_neg k10]) (c_86))
        refine pr_aload_n 97 dX9_readTrip_96 rfl rfl rfl ?_
        refine pr_iconst (0) 98 dX9_readTrip_97 (by decide) rfl ?_
        refine pr_sipush (9999) 101 dX9_readTrip_98 (by decide) rfl ?_
        refine pr_iconst (2) 102 dX9_readTrip_101 (by decide) rfl ?_
        refine pr_invDR3 105 dX9_readTrip_102 vX9_120 mX9_told (sp_X9_told x2 m2 hN2.2.1 (nI 0) (nI 9999) 2) ⟨Nat.le_of_ble_eq_true rfl, Nat.le_of_ble_eq_true rfl⟩ (Nat.le_of_ble_eq_true rfl) rfl (fun mem3 h3 => ?_)
        rw [if_pos o]
        rw [tdP, if_pos o] at h3
        obtain ⟨g3, m3⟩ := h3
        have r3 := goF.row r2 g3
        refine pr_istore 107 dX9_readTrip_105 (pm_st_4 rfl rfl) rfl ?_
        refine pr_iload 109 dX9_readTrip_107 rfl rfl ?_
        refine pr_iconst (-1) 110 dX9_readTrip_109 (by decide) rfl ?_
        refine pr_icmp_ne 115 113 dX9_readTrip_110 rfl rfl (fun c_110 => ?_) (fun c_110 => absurd (c_110) (nI_nm (by omega)))
        refine pr_aload_n 116 dX9_readTrip_115 rfl rfl rfl ?_
        refine pr_getR0 119 dX9_readTrip_116 fX9_67 rfl ?_
        refine pr_iconst (4) 120 dX9_readTrip_119 (by decide) rfl ?_
        refine pr_iload_n 121 dX9_readTrip_120 rfl rfl rfl ?_
        refine pr_iadd 122 dX9_readTrip_121 rfl ?_
        refine pr_iload 124 dX9_readTrip_122 rfl rfl ?_
        refine pr_iastore (4 + t) 125 dX9_readTrip_124 rfl rfl (nI_add 4 t) (by omega) rfl ?_
        refine st4 (tN B T p2) (tV B T p2 + 1) _ _ hNq.2.1 R3 (F2.tr g3.ln).u ((x2.go g3).ln lnG.rf.u) m3.u ?_
        have := r3.w (k := 4 + t) (v := tV B T p2 + 1) (x := nI (tV B T p2)) (by omega) (by rw [cdI, if_pos (by omega), nI_pred])
        rw [up_up] at this
        exact this
      · refine pr_aload_n 74 dX9_readTrip_73 rfl rfl rfl ?_
        refine pr_bipush (110) 76 dX9_readTrip_74 (by decide) rfl ?_
        refine pr_bipush (111) 78 dX9_readTrip_76 (by decide) rfl ?_
        refine pr_bipush (110) 80 dX9_readTrip_78 (by decide) rfl ?_
        refine pr_bipush (101) 82 dX9_readTrip_80 (by decide) rfl ?_
        refine pr_iconst (0) 83 dX9_readTrip_82 (by decide) rfl ?_
        refine pr_invD5 86 dX9_readTrip_83 vX9_136 mX9_is (sp_is_none m2 hB) ⟨Nat.le_of_ble_eq_true rfl, Nat.le_of_ble_eq_true rfl⟩ (Nat.le_of_ble_eq_true rfl) rfl ?_
        refine pr_if_eq 96 89 dX9_readTrip_86 rfl rfl (fun c_86 => ?_) (fun c_86 => absurd (by rw [if_neg k10]) (c_86))
        refine pr_aload_n 97 dX9_readTrip_96 rfl rfl rfl ?_
        refine pr_iconst (0) 98 dX9_readTrip_97 (by decide) rfl ?_
        refine pr_sipush (9999) 101 dX9_readTrip_98 (by decide) rfl ?_
        refine pr_iconst (2) 102 dX9_readTrip_101 (by decide) rfl ?_
        refine pr_invDR3 105 dX9_readTrip_102 vX9_120 mX9_told (sp_X9_told x2 m2 hN2.2.1 (nI 0) (nI 9999) 2) ⟨Nat.le_of_ble_eq_true rfl, Nat.le_of_ble_eq_true rfl⟩ (Nat.le_of_ble_eq_true rfl) rfl (fun mem3 h3 => ?_)
        rw [if_neg o]
        rw [tdP, if_neg o] at h3
        refine pr_istore 107 dX9_readTrip_105 (pm_st_4 rfl rfl) rfl ?_
        refine pr_iload 109 dX9_readTrip_107 rfl rfl ?_
        refine pr_iconst (-1) 110 dX9_readTrip_109 (by decide) rfl ?_
        refine pr_icmp_ne 115 113 dX9_readTrip_110 rfl rfl (fun c_110 => absurd (rfl) (c_110)) (fun c_110 => ?_)
        refine pr_iconst (0) 114 dX9_readTrip_113 (by decide) rfl ?_
        refine pr_zreturn dX9_readTrip_114 rfl (by first | exact Or.inl rfl | exact Or.inr rfl) ?_
        exact ⟨0, rfl, F2.tr h3.1.ln, Or.inr ⟨rfl, _, _, R2.1 _ (Ff.2 o), h3.2.1, h3.2.2⟩⟩
  refine pr_aload_n 33 dX9_readTrip_32 rfl rfl rfl ?_
  refine pr_iconst (0) 34 dX9_readTrip_33 (by decide) rfl ?_
  refine pr_aload_n 35 dX9_readTrip_34 rfl rfl rfl ?_
  refine pr_getR0 38 dX9_readTrip_35 fX9_67 rfl ?_
  refine pr_bipush (38) 40 dX9_readTrip_38 (by decide) rfl ?_
  refine pr_iaload 38 41 dX9_readTrip_40 rfl rfl rfl (by omega) rfl ?_
  rw [r1.1 38 (by omega) (by omega)]
  refine pr_iconst (1) 42 dX9_readTrip_41 (by decide) rfl ?_
  refine pr_isub 43 dX9_readTrip_42 rfl ?_
  refine pr_iconst (3) 44 dX9_readTrip_43 (by decide) rfl ?_
  refine pr_invDR3 47 dX9_readTrip_44 vX9_120 mX9_told (sp_X9_told x1 m1 hN.2.1 0 (nI (s.K 38) - 1) 3) ⟨Nat.le_of_ble_eq_true rfl, Nat.le_of_ble_eq_true rfl⟩ (Nat.le_of_ble_eq_true rfl) rfl (fun mem2 h2 => ?_)
  rw [if_pos o1, ev1]
  rw [tdP, if_pos o1, ep2] at h2
  obtain ⟨g2, m2⟩ := h2
  have r2 := goF.row r1 g2
  refine pr_istore_n 48 dX9_readTrip_47 rfl (pm_st_3 rfl rfl) rfl ?_
  refine pr_iload_n 49 dX9_readTrip_48 rfl rfl rfl ?_
  refine pr_iconst (-1) 50 dX9_readTrip_49 (by decide) rfl ?_
  refine pr_icmp_ne 55 53 dX9_readTrip_50 rfl rfl (fun c_50 => ?_) (fun c_50 => absurd (c_50) (nI_nm (by omega)))
  refine pr_aload_n 56 dX9_readTrip_55 rfl rfl rfl ?_
  refine pr_getR0 59 dX9_readTrip_56 fX9_67 rfl ?_
  refine pr_iload_n 60 dX9_readTrip_59 rfl rfl rfl ?_
  refine pr_iconst (0) 61 dX9_readTrip_60 (by decide) rfl ?_
  refine pr_iadd 62 dX9_readTrip_61 rfl ?_
  refine pr_iload_n 63 dX9_readTrip_62 rfl rfl rfl ?_
  refine pr_iastore (101 + 6 * t) 64 dX9_readTrip_63 rfl rfl (by rw [show (0 : Int32) = nI 0 from rfl, nI_add, Nat.add_zero]) (by omega) rfl ?_
  refine pr_aload_n 65 dX9_readTrip_64 rfl rfl rfl ?_
  refine pr_getR0 68 dX9_readTrip_65 fX9_67 rfl ?_
  refine pr_iconst (4) 69 dX9_readTrip_68 (by decide) rfl ?_
  refine pr_iload_n 70 dX9_readTrip_69 rfl rfl rfl ?_
  refine pr_iadd 71 dX9_readTrip_70 rfl ?_
  refine pr_iconst (-1) 72 dX9_readTrip_71 (by decide) rfl ?_
  refine pr_iastore (4 + t) 73 dX9_readTrip_72 rfl rfl (nI_add 4 t) (by omega) rfl ?_
  exact st3 _ (((g1.ln.tr g2.ln).u).u) ((x1.go g2).ln (lnG.rf.u).u) (m2.u).u ((r2.w (k := 101 + 6 * t) (v := v1) (by omega) (by rw [cdI, if_neg (by omega)])).w (k := 4 + t) (v := 0) (by omega) (by rw [cdI, if_pos (by omega)]; rfl))
end MTB
