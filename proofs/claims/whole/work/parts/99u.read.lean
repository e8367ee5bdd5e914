/-! the class: a text is read -/
def sRX (d : Nat) : Nat → Nat → Prop := fun t i => sRT d t i ∨ sSc t i
section RDC
variable {mem mem0 : pm_M} {T p d : Nat} {B : Nat → Nat} {s : RS}
theorem sRX_tap {m : pm_M} (hf : pm_fr (sRX d) mem0 m) (h : tapC mem0 T B) : tapC m T B := by
  unfold tapC
  rw [(hf 10007907 0 (by simp [sRX, sRT, sSc, dkT])).1, (hf 30840280 0 (by simp [sRX, sRT, sSc, dkT])).1]
  exact h
theorem rdR.eq' {m : pm_M} (h : rdR mem d s) (h1 : m.2.2 10004904 0 = mem.2.2 10004904 0) (h2 : m.1 10004904 0 = mem.1 10004904 0) (h3 : m.1 20003166 0 = mem.1 20003166 0) : rdR m d s := by
  unfold rdR
  rw [h1, h2, h3]
  exact h
/-- what holds behind reading -/
def rxP (m0 : pm_M) (d : Nat) (B : Nat → Nat) (T : Nat) : Option pm_v → pm_M → Prop := fun r mem => ∃ x, r = some (pI x) ∧ ∃ res, Rd B T s00 0 res ∧ pm_fr (sRX d) m0 mem ∧
  match res with
  | .ok s => x = 1 ∧ s.w = 0 ∧ (∃ p, RI B T s p) ∧ mem.1 10004904 0 2 = nI s.ln ∧ mem.1 10004904 0 3 = 0 ∧ rdD mem d s.K (s.K 40) s.sn s.sf s.se
  | .error e => x = 0 ∧ mem.1 10004904 0 3 = nI e.1 ∧ mem.1 10004904 0 4 = nI e.2
theorem tkX (hI : RI B T s p) (hT : T ≤ 840) (hk0 : ¬ tK B T p = 0) (hc : ctk mem B T p) (hR : rdR mem d s) (hD : rdD mem d s.K (tc s) s.sn s.sf s.se) : Cl yX4_takeToken cX4_takeToken 1 (some .boolean) 5 104 [pR 10004904 0] mem (fun r m => ∃ x, r = some (pI x) ∧ pm_fr (sRT d) mem m ∧ ((∃ s', stp s (tK B T p) (tV B T p) = .ok s' ∧ x = 1 ∧ rdR m d s' ∧ rdD m d s'.K (tc s') s'.sn s'.sf s'.se) ∨ ∃ e, stp s (tK B T p) (tV B T p) = .error e ∧ x = 0 ∧ m.1 10004904 0 3 = nI e ∧ m.1 10004904 0 4 = nI (tS B T p))) := by
  refine Cl.mono (tkT hI hT hk0 hc hR hD) (fun r m h => ?_)
  obtain ⟨hf, hm⟩ := h
  rcases hs : stp s (tK B T p) (tV B T p) with e | s'
  · rw [hs] at hm
    exact ⟨0, hm.1, hf, Or.inr ⟨e, rfl, rfl, hm.2.2⟩⟩
  · rw [hs] at hm
    exact ⟨1, hm.1, hf, Or.inl ⟨s', rfl, rfl, hm.2⟩⟩
set_option maxRecDepth 100000 in
theorem sp_X4_read (h : tapC mem0 T B) (hT : T ≤ 840) (hB : ∀ k, B k < 256) : Cl yX4_read cX4_read 3 (some .boolean) 8 205 [pR 10004904 0, pR 10000900 d] mem0 (rxP mem0 d B T) := by
  have fin : ∀ p s mem a2, pm_fr (sRX d) mem0 mem → Rt B T s00 0 s p → RI B T s p → tK B T p = 0 → ctk mem B T p → rdR mem d s → rdD mem d s.K (tc s) s.sn s.sf s.se → PR cX4_read RX4 3 8 205 83 [some (pR 10004904 0), some (pR 10000900 d), some (pI a2)] [] mem (pm_RX cX4_read (some .boolean) (rxP mem0 d B T)) := by
    intro p s mem a2 hf hR hI k0 hc hr hd
    have ht := sRX_tap hf h
    have hcut : ¬ (s.w = 0 ∧ T ≤ 800) → ∀ a3 : Int32, PR cX4_read RX4 3 8 205 111 [some (pR 10004904 0), some (pR 10000900 d), some (pI a3)] [] mem (pm_RX cX4_read (some .boolean) (rxP mem0 d B T)) := by
      intro hn a3
      refine pr_aload_n 112 dX4_read_111 rfl rfl rfl ?_
      refine pr_iconst (1) 113 dX4_read_112 (by decide) rfl ?_
      refine pr_invD1 116 dX4_read_113 vX4_62 mX4_refuse (sp_X4_refuse hc 1) ⟨Nat.le_of_ble_eq_true rfl, Nat.le_of_ble_eq_true rfl⟩ (Nat.le_of_ble_eq_true rfl) rfl ?_
      refine pr_if_eq 123 119 dX4_read_116 rfl rfl (fun c_116 => ?_) (fun c_116 => absurd (rfl) (c_116))
      refine pr_iconst (0) 124 dX4_read_123 (by decide) rfl ?_
      refine pr_zreturn dX4_read_124 rfl (by first | exact Or.inl rfl | exact Or.inr rfl) ?_
      refine ⟨0, rfl, .error (1, tS B T p), hR.1 _ (Rd.cut k0 hn), (hf.uI (Or.inl (Or.inl ⟨Or.inl rfl, rfl⟩))).uI (Or.inl (Or.inl ⟨Or.inl rfl, rfl⟩)), rfl, ?_, pm_gIe⟩
      rw [pm_gIn (by simp), pm_gIe]; rfl
    by_cases w0 : s.w = 0
    · have h3 := hr.2.2.1
      rw [if_pos w0] at h3
      by_cases t8 : T ≤ 800
      · have hu : ¬ uw s := fun z => by have := z.1; omega
        rw [tc_n hu] at hd
        refine pr_aload_n 84 dX4_read_83 rfl rfl rfl ?_
        refine pr_getI 87 dX4_read_84 fX4_43 rfl ?_
        rw [h3]
        refine pr_iconst (-1) 88 dX4_read_87 (by decide) rfl ?_
        refine pr_icmp_ne 105 91 dX4_read_88 rfl rfl (fun c_88 => absurd (rfl) (c_88)) (fun c_88 => ?_)
        refine pr_aload_n 92 dX4_read_91 rfl rfl rfl ?_
        refine pr_getR0 95 dX4_read_92 fX4_20 rfl ?_
        refine pr_invD0 98 dX4_read_95 vX4_59 mX6_hasTooMany (sp_X6_hasTooMany ht hT) ⟨Nat.le_of_ble_eq_true rfl, Nat.le_of_ble_eq_true rfl⟩ (Nat.le_of_ble_eq_true rfl) rfl ?_
        refine pr_if_ne 105 101 dX4_read_98 rfl rfl (fun c_98 => absurd (by rw [if_pos t8]) (c_98)) (fun c_98 => ?_)
        refine pr_iconst (1) 102 dX4_read_101 (by decide) rfl ?_
        refine pr_goto 106 dX4_read_102 rfl ?_
        refine pr_istore_n 107 dX4_read_106 rfl (pm_st_2 rfl rfl) rfl ?_
        refine pr_iload_n 108 dX4_read_107 rfl rfl rfl ?_
        refine pr_if_ne 119 111 dX4_read_108 rfl rfl (fun c_108 => ?_) (fun c_108 => absurd (c_108) (by decide))
        refine pr_iconst (1) 120 dX4_read_119 (by decide) rfl ?_
        refine pr_goto 124 dX4_read_120 rfl ?_
        refine pr_zreturn dX4_read_124 rfl (by first | exact Or.inl rfl | exact Or.inr rfl) ?_
        exact ⟨1, rfl, .ok s, hR.1 _ (Rd.fin k0 ⟨w0, t8⟩), hf, rfl, w0, ⟨p, hI⟩, hr.2.1, hr.2.2.2.1, hd⟩
      · refine pr_aload_n 84 dX4_read_83 rfl rfl rfl ?_
        refine pr_getI 87 dX4_read_84 fX4_43 rfl ?_
        rw [h3]
        refine pr_iconst (-1) 88 dX4_read_87 (by decide) rfl ?_
        refine pr_icmp_ne 105 91 dX4_read_88 rfl rfl (fun c_88 => absurd (rfl) (c_88)) (fun c_88 => ?_)
        refine pr_aload_n 92 dX4_read_91 rfl rfl rfl ?_
        refine pr_getR0 95 dX4_read_92 fX4_20 rfl ?_
        refine pr_invD0 98 dX4_read_95 vX4_59 mX6_hasTooMany (sp_X6_hasTooMany ht hT) ⟨Nat.le_of_ble_eq_true rfl, Nat.le_of_ble_eq_true rfl⟩ (Nat.le_of_ble_eq_true rfl) rfl ?_
        refine pr_if_ne 105 101 dX4_read_98 rfl rfl (fun c_98 => ?_) (fun c_98 => absurd (c_98) (by rw [if_neg t8]; decide))
        refine pr_iconst (0) 106 dX4_read_105 (by decide) rfl ?_
        refine pr_istore_n 107 dX4_read_106 rfl (pm_st_2 rfl rfl) rfl ?_
        refine pr_iload_n 108 dX4_read_107 rfl rfl rfl ?_
        refine pr_if_ne 119 111 dX4_read_108 rfl rfl (fun c_108 => absurd (rfl) (c_108)) (fun c_108 => ?_)
        exact hcut (fun z => t8 z.2) _
    · have h3 := hr.2.2.1
      rw [if_neg w0] at h3
      have hw5 := hI.1.2.1.1
      refine pr_aload_n 84 dX4_read_83 rfl rfl rfl ?_
      refine pr_getI 87 dX4_read_84 fX4_43 rfl ?_
      rw [h3]
      refine pr_iconst (-1) 88 dX4_read_87 (by decide) rfl ?_
      refine pr_icmp_ne 105 91 dX4_read_88 rfl rfl (fun c_88 => ?_) (fun c_88 => absurd (c_88) (nI_m1 (by omega)))
      refine pr_iconst (0) 106 dX4_read_105 (by decide) rfl ?_
      refine pr_istore_n 107 dX4_read_106 rfl (pm_st_2 rfl rfl) rfl ?_
      refine pr_iload_n 108 dX4_read_107 rfl rfl rfl ?_
      refine pr_if_ne 119 111 dX4_read_108 rfl rfl (fun c_108 => absurd (rfl) (c_108)) (fun c_108 => ?_)
      exact hcut (fun z => w0 z.1) _
  have lp : ∀ n p k s mem, T - p < n → k ≤ p → pm_fr (sRX d) mem0 mem → Rt B T s00 0 s p → RI B T s p → mem.1 10006906 0 4 = nI p → mem.1 10006906 0 5 = nI (min T 800) → rdR mem d s → rdD mem d s.K (tc s) s.sn s.sf s.se → PR cX4_read RX4 3 8 205 41 [some (pR 10004904 0), some (pR 10000900 d), some (pI (nI k))] [] mem (pm_RX cX4_read (some .boolean) (rxP mem0 d B T)) := by
    intro n
    induction n with
    | zero => intro p k s mem hn; omega
    | succ n ih =>
      intro p k s mem hn hkp hf hR hI hat hlm hr hd
      have hp := hI.2.2.1
      have ht := sRX_tap hf h
      refine pr_iload_n 42 dX4_read_41 rfl rfl rfl ?_
      refine pr_sipush (840) 45 dX4_read_42 (by decide) rfl ?_
      refine pr_icmp_gt 83 48 dX4_read_45 rfl rfl (fun c_45 => absurd (c_45) (nI_nlt (b := k) (a := 840) (by omega) (by omega))) (fun c_45 => ?_)
      refine pr_aload_n 49 dX4_read_48 rfl rfl rfl ?_
      refine pr_getR0 52 dX4_read_49 fX4_20 rfl ?_
      refine pr_inv0R0 55 dX4_read_52 vX4_49 mX6_next (sp_X6_next ht hT hB hp hat hlm (fun mem q k ht hs ha hk => sp_X6_wordKind ht hT hB hs ha hk)) ⟨Nat.le_of_ble_eq_true rfl, Nat.le_of_ble_eq_true rfl⟩ (Nat.le_of_ble_eq_true rfl) rfl (fun mem1 h1 => ?_)
      obtain ⟨n1, c1⟩ := h1
      have hf1 : pm_fr (sRX d) mem0 mem1 := hf.tr (n1.1.mono (fun t i z => Or.inr z))
      have hr1 : rdR mem1 d s := by
        refine rdR.eq' hr ?_ ?_ ?_
        · rw [(n1.1 10004904 0 (by simp [sSc])).2.2]
        · rw [(n1.1 10004904 0 (by simp [sSc])).1]
        · rw [(n1.1 20003166 0 (by simp [sSc])).1]
      have hd1 : rdD mem1 d s.K (tc s) s.sn s.sf s.se := rdD.eq hd (fun t ht => (n1.1 t d (fun z => by rw [z.1] at ht; simp [dkT] at ht)).1)
      by_cases k0 : tK B T p = 0
      · refine pr_aload_n 56 dX4_read_55 rfl rfl rfl ?_
        refine pr_getR0 59 dX4_read_56 fX4_20 rfl ?_
        refine pr_getI 62 dX4_read_59 fX4_52 rfl ?_
        rw [c1.1, k0]
        refine pr_if_ne 68 65 dX4_read_62 rfl rfl (fun c_62 => absurd (rfl) (c_62)) (fun c_62 => ?_)
        refine pr_goto 83 dX4_read_65 rfl ?_
        exact fin p s mem1 _ hf1 hR hI k0 c1 hr1 hd1
      · have hk14 := tK_lt B T p
        refine pr_aload_n 56 dX4_read_55 rfl rfl rfl ?_
        refine pr_getR0 59 dX4_read_56 fX4_20 rfl ?_
        refine pr_getI 62 dX4_read_59 fX4_52 rfl ?_
        rw [c1.1]
        refine pr_if_ne 68 65 dX4_read_62 rfl rfl (fun c_62 => ?_) (fun c_62 => absurd (c_62) (nI_ne0 (by omega) (by omega)))
        refine pr_aload_n 69 dX4_read_68 rfl rfl rfl ?_
        refine pr_invX0 72 dX4_read_69 vX4_55 mX4_takeToken (tkX hI hT k0 c1 hr1 hd1) ⟨Nat.le_of_ble_eq_true rfl, Nat.le_of_ble_eq_true rfl⟩ (Nat.le_of_ble_eq_true rfl) rfl (fun x2 mem2 h2 => ?_)
        rcases h2 with ⟨f2, ⟨s', hs, rfl, r2, d2⟩ | ⟨e, hs, rfl, l1, l2⟩⟩
        · have k2 := stp_k hs
          have hN := tN_bd hp k2
          have hf2 : pm_fr (sRX d) mem0 mem2 := hf1.tr (f2.mono (fun t i z => Or.inl z))
          have hsc : mem2.1 10006906 0 = mem1.1 10006906 0 := (f2 10006906 0 (by simp [sRT, dkT])).1
          refine pr_if_ne 77 75 dX4_read_72 rfl rfl (fun c_72 => ?_) (fun c_72 => absurd (c_72) (by decide))
          refine pr_iinc 80 dX4_read_77 rfl (by first | exact pm_inc _ | rfl) (pm_st_2 rfl rfl) rfl ?_
          refine pr_goto 41 dX4_read_80 rfl ?_
          exact ih (tN B T p) (k + 1) s' mem2 (by omega) (by omega) hf2 (hR.tr (Rt.one k0 hs)) (RI_k s p s' hI k0 hs) (by rw [hsc]; exact c1.2.2.2 k2) (by rw [hsc, n1.2]; exact hlm) r2 d2
        · refine pr_if_ne 77 75 dX4_read_72 rfl rfl (fun c_72 => absurd (rfl) (c_72)) (fun c_72 => ?_)
          refine pr_iconst (0) 76 dX4_read_75 (by decide) rfl ?_
          refine pr_zreturn dX4_read_76 rfl (by first | exact Or.inl rfl | exact Or.inr rfl) ?_
          exact ⟨0, rfl, .error (e, tS B T p), hR.1 _ (Rd.bad k0 hs), hf1.tr (f2.mono (fun t i z => Or.inl z)), rfl, l1, l2⟩
  have key : ∀ M, pm_fr (sRX d) mem0 M → M.2.2 10004904 0 1 = some d → M.1 10004904 0 2 = 0 → M.1 10004904 0 5 = -1 → M.1 10004904 0 3 = 0 → (M.1 10000900 d 0 = 0 ∧ M.1 10000900 d 1 = 0 ∧ M.1 10000900 d 2 = 0 ∧ M.1 10000900 d 3 = 0 ∧ M.1 10000900 d 4 = 0 ∧ M.1 10000900 d 5 = 0) → PR cX4_read RX4 3 8 205 32 [some (pR 10004904 0), some (pR 10000900 d), none] [] M (pm_RX cX4_read (some .boolean) (rxP mem0 d B T)) := by
    intro M hf m1 m2 m3 m4 m5
    have ht := sRX_tap hf h
    refine pr_aload_n 33 dX4_read_32 rfl rfl rfl ?_
    refine pr_getR0 36 dX4_read_33 fX4_20 rfl ?_
    refine pr_inv0R0 39 dX4_read_36 vX4_46 mX6_begin (sp_X6_begin ht hT) ⟨Nat.le_of_ble_eq_true rfl, Nat.le_of_ble_eq_true rfl⟩ (Nat.le_of_ble_eq_true rfl) rfl (fun mem1 h1 => ?_)
    refine pr_iconst (0) 40 dX4_read_39 (by decide) rfl ?_
    refine pr_istore_n 41 dX4_read_40 rfl (pm_st_2 rfl rfl) rfl ?_
    obtain ⟨f1, q1, q2⟩ := h1
    have hf1 : pm_fr (sRX d) mem0 mem1 := hf.tr (f1.mono (fun t i z => Or.inr z))
    have er := f1 10004904 0 (by simp [sSc])
    have ed := (f1 10000900 d (by simp [sSc])).1
    refine lp (T + 1) 0 0 s00 mem1 (by omega) (Nat.le_refl _) hf1 Rt.rf RI_0 q1 q2 ⟨?_, ?_, ?_, ?_, fun z => absurd rfl z⟩ ⟨?_, fun q hq => absurd hq (Nat.not_lt_zero _), fun q hq => absurd hq (Nat.not_lt_zero _), fun q hq => absurd hq (Nat.not_lt_zero _), fun q hq => absurd hq (Nat.not_lt_zero _), fun q hq => absurd hq (Nat.not_lt_zero _)⟩
    · rw [er.2.2]; exact m1
    · rw [er.1]; exact m2
    · rw [er.1]; exact m3
    · rw [er.1]; exact m4
    · rw [ed]; exact m5
  refine Cl.of (own := RX4) rfl rfl (Nat.le_of_ble_eq_true rfl) rfl ?_; show PR _ _ _ _ _ _ [some _, some _, none] _ _ _
  refine pr_aload_n 1 dX4_read_0 rfl rfl rfl ?_
  refine pr_aload_n 2 dX4_read_1 rfl rfl rfl ?_
  refine pr_putP 5 dX4_read_2 fX4_24 rfl rfl ?_
  refine pr_aload_n 6 dX4_read_5 rfl rfl rfl ?_
  refine pr_getP d 9 dX4_read_6 fX4_24 (by rw [pm_gP, if_pos ⟨rfl, rfl, rfl⟩]) rfl ?_
  refine pr_inv00 12 dX4_read_9 vX4_28 mX0_clear (sp_X0_clear) ⟨Nat.le_of_ble_eq_true rfl, Nat.le_of_ble_eq_true rfl⟩ (Nat.le_of_ble_eq_true rfl) rfl ?_
  refine pr_aload_n 13 dX4_read_12 rfl rfl rfl ?_
  refine pr_iconst (0) 14 dX4_read_13 (by decide) rfl ?_
  refine pr_putI 17 dX4_read_14 fX4_33 rfl ?_
  refine pr_aload_n 18 dX4_read_17 rfl rfl rfl ?_
  refine pr_iconst (0) 19 dX4_read_18 (by decide) rfl ?_
  refine pr_putI 22 dX4_read_19 fX4_37 rfl ?_
  refine pr_aload_n 23 dX4_read_22 rfl rfl rfl ?_
  refine pr_iconst (0) 24 dX4_read_23 (by decide) rfl ?_
  refine pr_putI 27 dX4_read_24 fX4_40 rfl ?_
  refine pr_aload_n 28 dX4_read_27 rfl rfl rfl ?_
  refine pr_iconst (-1) 29 dX4_read_28 (by decide) rfl ?_
  refine pr_putI 32 dX4_read_29 fX4_43 rfl ?_
  refine key _ ?_ ?_ ?_ ?_ ?_ ⟨?_, ?_, ?_, ?_, ?_, ?_⟩
  · refine (((((((((((pm_fr.rf.uP (Or.inl (Or.inl ⟨Or.inl rfl, rfl⟩))).uI (Or.inl (Or.inr ⟨by simp [dkT], rfl⟩))).uI (Or.inl (Or.inr ⟨by simp [dkT], rfl⟩))).uI (Or.inl (Or.inr ⟨by simp [dkT], rfl⟩))).uI (Or.inl (Or.inr ⟨by simp [dkT], rfl⟩))).uI (Or.inl (Or.inr ⟨by simp [dkT], rfl⟩))).uI (Or.inl (Or.inr ⟨by simp [dkT], rfl⟩))).uI ?_).uI ?_).uI ?_).uI ?_)
    · exact Or.inl (Or.inl ⟨Or.inl rfl, rfl⟩)
    · exact Or.inl (Or.inl ⟨Or.inl rfl, rfl⟩)
    · exact Or.inl (Or.inl ⟨Or.inl rfl, rfl⟩)
    · exact Or.inl (Or.inl ⟨Or.inl rfl, rfl⟩)
  · show (pm_uP mem0 _ _ _ _).2.2 _ _ _ = _
    rw [pm_gP, if_pos ⟨rfl, rfl, rfl⟩]
  all_goals simp [pm_gI]
end RDC
