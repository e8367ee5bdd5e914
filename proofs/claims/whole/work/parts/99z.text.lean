/-! the class: text -/
/-- the reference's rows -/
def mdTs : List Nat := [10009909, 20016377, 20016378, 20016379, 20017375, 20017376, 20017380, 20017382, 20017383, 20289381, 20432373, 20840361, 20869371, 20869372, 21000389, 40017384, 40017385]
section TXT
variable {mem mem0 : pm_M} {d d' n T : Nat} {K : Nat → Nat} {S : Nat → Nat → Nat} {B : Nat → Nat}
theorem IC.keep {F : Nat → Nat → Prop} (h : IC mem0 d K) (h0 : mem.2.2 10008908 0 = mem0.2.2 10008908 0) (hf : pm_fr F mem0 mem) (hd : ∀ t ∈ [10000900, 20012006, 20012007, 20004008, 20004009, 20016010, 20016011, 20016012, 20016013, 20016014, 20016015], ¬ F t d)
    (hr : ∀ t ∈ [20016201, 20016202, 20016203, 20016204, 20016605, 20016606], ∀ i, ¬ F t i) (hg : ∀ t ∈ [10005905, 20288213, 20288214, 20288215], ¬ F t 0) (hl : ∀ t ∈ [20016210, 20016211, 20016209, 20012608, 20012607], ∀ i, ¬ F t i)
    (ha : ∀ t ∈ [10002902, 20016086, 20016087, 20016089, 20016488, 20016090, 20016091, 20016492, 20016094, 20016095], ∀ i, ¬ F t i) : IC mem d K := by
  obtain ⟨h1, kd, kr, kg, hx, hw, hA⟩ := h
  refine ⟨by rw [h0]; exact h1, kd.fr hf hd, kr.fr hf hr, kg.fr hf hg, ?_, ?_, ?_⟩
  · rw [(hf 20016210 0 (hl _ (by simp) _)).1, (hf 20016211 0 (hl _ (by simp) _)).1, (hf 20016209 0 (hl _ (by simp) _)).1]
    intro l hl'
    refine ⟨(hx l hl').1, (hx l hl').2.1, (hx l hl').2.2.1, fun p hp => ?_⟩
    rw [(hf 20012608 l (hl _ (by simp) _)).1]
    exact (hx l hl').2.2.2 p hp
  · intro a b ha' hb'
    rw [(hf 20012607 a (hl _ (by simp) _)).1]
    exact hw a b ha' hb'
  · obtain ⟨a1, a2, a3, a4, a5, a6⟩ := hA
    refine ⟨?_, ?_, ?_, ?_, ?_, ?_⟩
    · intro t ht; rw [(hf 20016086 0 (ha _ (by simp) _)).1]; exact a1 t ht
    · intro t ht; rw [(hf 20016087 0 (ha _ (by simp) _)).1]; exact a2 t ht
    · intro t ht
      rw [(hf 20016089 0 (ha _ (by simp) _)).1, (hf 20016488 (16 * 0 + t) (ha _ (by simp) _)).1]
      exact a3 t ht
    · intro t ht
      rw [(hf 20016090 0 (ha _ (by simp) _)).1, (hf 20016091 0 (ha _ (by simp) _)).1, (hf 20016492 (16 * 0 + t) (ha _ (by simp) _)).1]
      exact a4 t ht
    · rw [(hf 10002902 0 (ha _ (by simp) _)).1]; exact a5
    · intro l hl'
      rw [(hf 20016094 0 (ha _ (by simp) _)).1, (hf 20016095 0 (ha _ (by simp) _)).1]
      exact a6 l hl'
/-- all rows but the reference's -/
def sNM : Nat → Nat → Prop := fun t _ => ¬ t ∈ mdTs
def sTx (d' : Nat) : Nat → Nat → Prop := fun t i => sRX d' t i ∨ (t = 10007907 ∨ t = 10008908)
/-- what holds behind a text, of the class -/
def xcP (m0 : pm_M) (B : Nat → Nat) (T d d' : Nat) (K : Nat → Nat) (n : Nat) (S : Nat → Nat → Nat) : Option pm_v → pm_M → Prop := fun r mem => ∃ res, Rd B T s00 0 res ∧ pm_fr sNM m0 mem ∧ mem.1 10007907 0 1 = 0 ∧
  match res with
  | .ok s => r = some (pI (nI s.ln)) ∧ mem.1 10008908 0 8 = 0 ∧ CI mem d' s.K 0 (fun _ => s.K) ∧ mem.2.2 10008908 0 7 = some d
  | .error e => r = some (pI (-1 - nI e.2)) ∧ mem.1 10008908 0 8 = nI e.1 ∧ CI mem d K n S ∧ mem.2.2 10008908 0 7 = some d'
set_option maxRecDepth 100000 in
theorem sp_X8_text (h : tapC mem0 T B) (hT : T ≤ 840) (hB : ∀ k, B k < 256) (hI : CI mem0 d K n S) (hs : mem0.2.2 10008908 0 7 = some d') (hne : ¬ d = d') : Cl yX8_text cX8_text 3 (some .int) 9 227 [pR 10008908 0] mem0 (xcP mem0 B T d d' K n S) := by
  refine Cl.of (own := RX8) rfl rfl (Nat.le_of_ble_eq_true rfl) rfl ?_; show PR _ _ _ _ _ _ [some _, none, none] _ _ _
  refine pr_aload_n 1 dX8_text_0 rfl rfl rfl ?_
  refine pr_getR0 4 dX8_text_1 fX8_21 rfl ?_
  refine pr_aload_n 5 dX8_text_4 rfl rfl rfl ?_
  refine pr_getP d' 8 dX8_text_5 fX8_56 hs rfl ?_
  refine pr_invX1 11 dX8_text_8 vX8_70 mX4_read (sp_X4_read h hT hB) ⟨Nat.le_of_ble_eq_true rfl, Nat.le_of_ble_eq_true rfl⟩ (Nat.le_of_ble_eq_true rfl) rfl (fun x1 mem1 h1 => ?_)
  obtain ⟨res, hRd, hf, hres⟩ := h1
  have eFS : mem1.2.2 10008908 0 = mem0.2.2 10008908 0 := (hf 10008908 0 (by simp [sRX, sRT, sSc, dkT])).2.2
  rcases res with ⟨e, q⟩ | s
  · obtain ⟨rfl, l1, l2⟩ := hres
    have l1' : mem1.1 10004904 0 3 = nI e := l1
    have l2' : mem1.1 10004904 0 4 = nI q := l2
    have hfx : pm_fr (sTx d') mem0 mem1 := hf.mono (fun t i z => Or.inl z)
    refine pr_istore_n 12 dX8_text_11 rfl (pm_st_1 rfl rfl) rfl ?_
    refine pr_aload_n 13 dX8_text_12 rfl rfl rfl ?_
    refine pr_getR0 16 dX8_text_13 fX8_12 rfl ?_
    refine pr_iconst (0) 17 dX8_text_16 (by decide) rfl ?_
    refine pr_putI 20 dX8_text_17 fX8_63 rfl ?_
    refine pr_aload_n 21 dX8_text_20 rfl rfl rfl ?_
    refine pr_aload_n 22 dX8_text_21 rfl rfl rfl ?_
    refine pr_getR0 25 dX8_text_22 fX8_21 rfl ?_
    refine pr_getI 28 dX8_text_25 fX8_74 rfl ?_
    rw [pm_gIn (by simp), l1']
    refine pr_putI 31 dX8_text_28 fX8_59 rfl ?_
    refine pr_iload_n 32 dX8_text_31 rfl rfl rfl ?_
    refine pr_if_ne 45 35 dX8_text_32 rfl rfl (fun c_32 => absurd (rfl) (c_32)) (fun c_32 => ?_)
    refine pr_iconst (-1) 36 dX8_text_35 (by decide) rfl ?_
    refine pr_aload_n 37 dX8_text_36 rfl rfl rfl ?_
    refine pr_getR0 40 dX8_text_37 fX8_21 rfl ?_
    refine pr_getI 43 dX8_text_40 fX8_77 rfl ?_
    rw [pm_gIn (by simp), pm_gIn (by simp), l2']
    refine pr_isub 44 dX8_text_43 rfl ?_
    refine pr_ireturn dX8_text_44 rfl ?_
    refine ⟨.error (e, q), hRd, ((hfx.uI (Or.inr (Or.inl rfl))).uI (Or.inr (Or.inr rfl))).mono (fun t i z => ?_), ?_, rfl, pm_gIe, ⟨?_, ?_, hI.2.2⟩, ?_⟩
    · simp [sTx, sRX, sRT, sSc, dkT] at z
      simp [sNM, mdTs]
      omega
    · rw [pm_gIn (by simp), pm_gIe]
    · refine IC.keep (F := sTx d') hI.1 eFS ((hfx.uI (Or.inr (Or.inl rfl))).uI (Or.inr (Or.inr rfl))) ?_ ?_ ?_ ?_ ?_
      · simp [sTx, sRX, sRT, sSc, dkT, hne]
      · simp [sTx, sRX, sRT, sSc, dkT]
      · simp [sTx, sRX, sRT, sSc, dkT]
      · simp [sTx, sRX, sRT, sSc, dkT]
      · simp [sTx, sRX, sRT, sSc, dkT]
    · exact hI.2.1.fr (Sf := sTx d') ((hfx.uI (Or.inr (Or.inl rfl))).uI (Or.inr (Or.inr rfl))) (by simp [sTx, sRX, sRT, sSc, dkT])
    · show mem1.2.2 _ _ _ = _
      rw [eFS]; exact hs
  · obtain ⟨rfl, w0, ⟨p, hRI⟩, l1, l2, hD⟩ := hres
    obtain ⟨hW, hZ, hC, ho, hsn, hb⟩ := RI_W hRI w0
    have hdk : ∀ (M : pm_M), (∀ t ∈ dkT, M.1 t d' = mem1.1 t d') → rdD M d' s.K (s.K 40) s.sn s.sf s.se := fun M hM => rdD.eq hD hM
    have key : ∀ M a1 a2, pm_fr sNM mem0 M → (∀ t ∈ dkT, M.1 t d' = mem1.1 t d') → M.2.2 10008908 0 6 = some d' → M.2.2 10008908 0 7 = some d → M.1 10004904 0 2 = nI s.ln → M.1 10007907 0 1 = 0 → M.1 10008908 0 8 = 0 → M.1 10001901 0 3 = 0 → PR cX8_text RX8 3 9 227 71 [some (pR 10008908 0), a1, a2] [] M (pm_RX cX8_text (some .int) (xcP mem0 B T d d' K n S)) := by
      intro M a1 a2 m0 m1 m2 m3 m4 m5 m6 m7
      have hD1 := hdk M m1
      refine pr_aload_n 72 dX8_text_71 rfl rfl rfl ?_
      refine pr_getR0 75 dX8_text_72 fX8_28 rfl ?_
      refine pr_aload_n 76 dX8_text_75 rfl rfl rfl ?_
      refine pr_getP d' 79 dX8_text_76 fX8_52 m2 rfl ?_
      refine pr_inv0R1 82 dX8_text_79 vX8_83 mX5_survey (sp_X5_survey hD1 hW hC hb ho hsn) ⟨Nat.le_of_ble_eq_true rfl, Nat.le_of_ble_eq_true rfl⟩ (Nat.le_of_ble_eq_true rfl) rfl (fun mem2 h2 => ?_)
      obtain ⟨f2, r2, g2, x2, w2⟩ := h2
      have e2 : mem2.2.2 10008908 0 = M.2.2 10008908 0 := (f2 10008908 0 (by simp [sSv])).2.2
      have d2 : deskR mem2 d' s.K := hD1.desk.fr f2 (by simp [sSv])
      refine pr_aload_n 83 dX8_text_82 rfl rfl rfl ?_
      refine pr_inv0R0 86 dX8_text_83 vX8_87 mX8_settle (sp_X8_settle (by rw [e2]; exact m2) d2 r2 hW) ⟨Nat.le_of_ble_eq_true rfl, Nat.le_of_ble_eq_true rfl⟩ (Nat.le_of_ble_eq_true rfl) rfl (fun mem3 h3 => ?_)
      obtain ⟨f3, a3⟩ := h3
      refine pr_aload_n 87 dX8_text_86 rfl rfl rfl ?_
      refine pr_getR0 90 dX8_text_87 fX8_21 rfl ?_
      refine pr_getI 93 dX8_text_90 fX8_90 rfl ?_
      rw [(f3 10004904 0 (by simp [sSe])).1, (f2 10004904 0 (by simp [sSv])).1, m4]
      refine pr_ireturn dX8_text_93 rfl ?_
      refine ⟨.ok s, hRd, (m0.tr (f2.mono (fun t i z => ?_))).tr (f3.mono (fun t i z => ?_)), ?_, rfl, ?_, ⟨⟨?_, d2.fr f3 (sSe_desk _), r2.fr f3 sSe_rout, g2.fr f3 (by simp [sSe]), ?_, ?_, a3⟩, ⟨?_, fun j hj => absurd hj (Nat.not_lt_zero _)⟩, by omega, rfl, fun j _ => ⟨hW, hZ⟩⟩, ?_⟩
      · simp [sSv] at z
        simp [sNM, mdTs]
        omega
      · simp [sSe] at z
        simp [sNM, mdTs]
        omega
      · rw [(f3 10007907 0 (by simp [sSe])).1, (f2 10007907 0 (by simp [sSv])).1]; exact m5
      · rw [(f3 10008908 0 (by simp [sSe])).1, (f2 10008908 0 (by simp [sSv])).1]; exact m6
      · rw [(f3 10008908 0 (by simp [sSe])).2.2, e2]; exact m2
      · rw [(f3 20016210 0 (by simp [sSe])).1, (f3 20016211 0 (by simp [sSe])).1, (f3 20016209 0 (by simp [sSe])).1]
        intro l hl
        refine ⟨(x2 l hl).1, (x2 l hl).2.1, (x2 l hl).2.2.1, fun p hp => ?_⟩
        rw [(f3 20012608 l (by simp [sSe])).1]
        exact (x2 l hl).2.2.2 p hp
      · intro a b ha hb
        rw [(f3 20012607 a (by simp [sSe])).1]
        exact w2 a b ha hb
      · rw [(f3 10001901 0 (by simp [sSe])).1, (f2 10001901 0 (by simp [sSv])).1]; exact m7
      · rw [(f3 10008908 0 (by simp [sSe])).2.2, e2]; exact m3
    refine pr_istore_n 12 dX8_text_11 rfl (pm_st_1 rfl rfl) rfl ?_
    refine pr_aload_n 13 dX8_text_12 rfl rfl rfl ?_
    refine pr_getR0 16 dX8_text_13 fX8_12 rfl ?_
    refine pr_iconst (0) 17 dX8_text_16 (by decide) rfl ?_
    refine pr_putI 20 dX8_text_17 fX8_63 rfl ?_
    refine pr_aload_n 21 dX8_text_20 rfl rfl rfl ?_
    refine pr_aload_n 22 dX8_text_21 rfl rfl rfl ?_
    refine pr_getR0 25 dX8_text_22 fX8_21 rfl ?_
    refine pr_getI 28 dX8_text_25 fX8_74 rfl ?_
    rw [pm_gIn (by simp), l2]
    refine pr_putI 31 dX8_text_28 fX8_59 rfl ?_
    refine pr_iload_n 32 dX8_text_31 rfl rfl rfl ?_
    refine pr_if_ne 45 35 dX8_text_32 rfl rfl (fun c_32 => ?_) (fun c_32 => absurd (c_32) (by decide))
    refine pr_aload_n 46 dX8_text_45 rfl rfl rfl ?_
    refine pr_getP d' 49 dX8_text_46 fX8_56 (by show mem1.2.2 _ _ _ = _; rw [eFS]; exact hs) rfl ?_
    refine pr_astore_n 50 dX8_text_49 rfl (pm_st_2 rfl rfl) rfl ?_
    refine pr_aload_n 51 dX8_text_50 rfl rfl rfl ?_
    refine pr_aload_n 52 dX8_text_51 rfl rfl rfl ?_
    refine pr_getP d 55 dX8_text_52 fX8_52 (by show mem1.2.2 _ _ _ = _; rw [eFS]; exact hI.1.1) rfl ?_
    refine pr_putP 58 dX8_text_55 fX8_56 rfl rfl ?_
    refine pr_aload_n 59 dX8_text_58 rfl rfl rfl ?_
    refine pr_aload_n 60 dX8_text_59 rfl rfl rfl ?_
    refine pr_putP 63 dX8_text_60 fX8_52 rfl rfl ?_
    refine pr_aload_n 64 dX8_text_63 rfl rfl rfl ?_
    refine pr_getR0 67 dX8_text_64 fX8_45 rfl ?_
    refine pr_iconst (0) 68 dX8_text_67 (by decide) rfl ?_
    refine pr_putI 71 dX8_text_68 fX8_80 rfl ?_
    refine key _ _ _ ?_ (fun t ht => ?_) ?_ ?_ ?_ ?_ ?_ ?_
    · have hfn : pm_fr sNM mem0 mem1 := hf.mono (fun t i z => by
        simp [sRX, sRT, sSc, dkT] at z
        simp [sNM, mdTs]
        omega)
      exact ((((hfn.uI (by simp [sNM, mdTs])).uI (by simp [sNM, mdTs])).uP (by simp [sNM, mdTs])).uP (by simp [sNM, mdTs])).uI (by simp [sNM, mdTs])
    · funext j
      simp only [dkT, List.mem_cons, List.not_mem_nil, or_false] at ht
      rcases ht with rfl | rfl | rfl | rfl | rfl | rfl | rfl | rfl | rfl | rfl | rfl | rfl | rfl | rfl <;> simp [pm_gI, pm_gIP]
    · simp [pm_gP, pm_uI]
    · simp [pm_gP, pm_uI]
    · simp [pm_gI, pm_gIP]; exact l1
    · simp [pm_gI, pm_gIP]
    · simp [pm_gI, pm_gIP]
    · simp [pm_gI, pm_gIP]
end TXT
