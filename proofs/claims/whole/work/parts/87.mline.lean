/-! the reference: lines of one form -/
section PRX
variable {cc : ByteArray} {own : String} {nL fr lo pc : Nat} {ls : List (Option pm_v)} {st : List pm_v} {mem : pm_M} {X : Nat → List (Option pm_v) → List pm_v → pm_M → Prop}
variable {idx t i : Nat} {y : MethodName} {bc : ByteArray} {mL fr' lo' : Nat} {ret : Option FieldType} {Q : Int32 → pm_M → Prop}
theorem pr_invX0 (q : Nat) (hd : decode cc pc = .ok (.invokevirtual idx, 3)) (hw : pm_CV own idx y t) (hm : pm_MW y bc mL ret 0) (hc : Cl y bc mL ret fr' lo' (pR t i :: []) mem (fun r m' => ∃ x, r = some (pI x) ∧ Q x m')) (hR : fr' + 1 ≤ fr ∧ 8 + (mL + 11) + lo' ≤ lo) (hst : (st.map pm_cat).sum ≤ 8) (hq : pc + 3 = q) (kk : ∀ x m', Q x m' → PR cc own nL fr lo q ls (pI x :: st) m' X) : PR cc own nL fr lo pc ls (pR t i :: st) mem X := pr_inv [] q hd hw hm hc hR rfl hst hq (fun r m' h => by obtain ⟨x, rfl, h2⟩ := h; exact kk x m' h2)
theorem pr_invX1 {a0 : pm_v} (q : Nat) (hd : decode cc pc = .ok (.invokevirtual idx, 3)) (hw : pm_CV own idx y t) (hm : pm_MW y bc mL ret 1) (hc : Cl y bc mL ret fr' lo' (pR t i :: [a0]) mem (fun r m' => ∃ x, r = some (pI x) ∧ Q x m')) (hR : fr' + 1 ≤ fr ∧ 8 + (mL + 11) + lo' ≤ lo) (hst : (st.map pm_cat).sum ≤ 8) (hq : pc + 3 = q) (kk : ∀ x m', Q x m' → PR cc own nL fr lo q ls (pI x :: st) m' X) : PR cc own nL fr lo pc ls (a0 :: pR t i :: st) mem X := pr_inv [a0] q hd hw hm hc hR rfl hst hq (fun r m' h => by obtain ⟨x, rfl, h2⟩ := h; exact kk x m' h2)
end PRX
section MLN
variable {mem mem0 : pm_M} {T p : Nat} {B : Nat → Nat} {s : RS}
def sMr : Nat → Nat → Prop := fun t i => (t = 10009909 ∨ t = 20869372) ∧ i = 0
def lnG (b : Bool) (m0 m : pm_M) : Prop := pm_fr sMr m0 m ∧ ∀ k, k ≠ 4 → k ≠ 5 → k ≠ 6 → k ≠ 7 → (b = true → k ≠ 8 ∧ k ≠ 9) → m.1 10009909 0 k = m0.1 10009909 0 k
theorem lnG.rf : lnG false mem mem := ⟨pm_fr.rf, fun _ _ _ _ _ _ => rfl⟩
theorem lnG.tr {m1 m2 : pm_M} {b1 b2 : Bool} (h1 : lnG b1 mem0 m1) (h2 : lnG b2 m1 m2) : lnG (b1 || b2) mem0 m2 := ⟨h1.1.tr h2.1, fun k a b c d e => (h2.2 k a b c d (fun z => e (by rw [z, Bool.or_true]))).trans (h1.2 k a b c d (fun z => e (by rw [z, Bool.true_or])))⟩
theorem goF.ln (h : goF mem0 mem) : lnG false mem0 mem := ⟨h.1.mono (fun t i z => ⟨Or.inl z.1, z.2⟩), fun k a b c d _ => h.2 k a b c d⟩
theorem badF.ln (h : badF mem0 mem) : lnG true mem0 mem := ⟨h.1.mono (fun t i z => ⟨Or.inl z.1, z.2⟩), fun k _ _ _ _ e => h.2 k (e rfl).1 (e rfl).2⟩
theorem lnG.u {b' : Bool} {k : Nat} {x : Int32} (h : lnG b' mem0 mem) : lnG b' mem0 (pm_uI mem 20869372 0 k x) := ⟨h.1.uI ⟨Or.inr rfl, rfl⟩, fun k a b c d e => by rw [pm_gIn (by simp)]; exact h.2 k a b c d e⟩
theorem txM.ln {b' : Bool} (h : txM mem0 T B) (hg : lnG b' mem0 mem) : txM mem T B := ⟨by rw [hg.2 _ (by decide) (by decide) (by decide) (by decide) (fun _ => by decide)]; exact h.1, by rw [(hg.1 20840361 0 (by simp [sMr])).1]; exact h.2.1, h.2.2⟩
theorem goF.row {K : Nat → Nat} (h : rowR 20869372 mem0 K) (hg : goF mem0 mem) : rowR 20869372 mem K := h.fr hg.1 (by simp [sMo])
theorem mtk.u {k : Nat} {x : Int32} (h : mtk mem B T p) : mtk (pm_uI mem 20869372 0 k x) B T p := by
  unfold mtk
  rw [pm_gIn (by simp), pm_gIn (by simp), pm_gIn (by simp), pm_gIn (by simp), pm_gJI]
  exact h
/-- a number of a row written -/
theorem rowR.w {K : Nat → Nat} (h : rowR 20869372 mem K) {k v : Nat} {x : Int32} (hk : k < 869) (hx : x = cdI k v) : rowR 20869372 (pm_uI mem 20869372 0 k x) (up K k v) := by
  refine ⟨fun j hj hc => ?_, fun t ht => ?_⟩
  · unfold up
    by_cases z : j = k
    · subst z; rw [pm_gIe, if_pos rfl, hx, cdI, if_neg (by omega)]
    · rw [pm_gIn (fun y => z y.2.2), if_neg z]; exact h.1 j hj hc
  · unfold up
    by_cases z : 4 + t = k
    · rw [z, pm_gIe, if_pos rfl, hx, cdI, if_pos (by omega)]
    · rw [pm_gIn (fun y => z y.2.2), if_neg z]; exact h.2 t ht
/-- a line read, but for its end; or a fault -/
def LQ (m0 : pm_M) (B : Nat → Nat) (T : Nat) (s : RS) (p : Nat) (x : Int32) (m : pm_M) : Prop := lnG (decide (x = 0)) m0 m ∧
  ((x = 1 ∧ ∃ s' p', Rt B T s p s' p' ∧ rowR 20869372 m (endK s') ∧ mtk m B T p' ∧ p' ≤ T ∧ ¬ s'.w = 0 ∧ s'.ln = s.ln ∧ (tK B T p' = 3 → stp s' 3 (tV B T p') = .ok (endL s')) ∧ (¬ tK B T p' = 3 → ¬ tK B T p' = 0 → stp s' (tK B T p') (tV B T p') = .error 1)) ∨
  (x = 0 ∧ ∃ e q, Rd B T s p (.error (e, q)) ∧ m.1 10009909 0 8 = nI e ∧ m.1 10009909 0 9 = nI q))
theorem fl_num {lo hi : Nat} (hw : ¬ s.w = 0) (hl : s.f.length < wnt s.w) (hf : ∀ k v, fld s k v = numF lo hi k v) (hh : lo < 10000 ∧ hi < 10000) : (tdOk B T p (nI lo) (nI hi) → Rt B T s p (push s (tV B T p)) (tN B T p)) ∧ (¬ tdOk B T p (nI lo) (nI hi) → Rd B T s p (.error (if tK B T p = 2 then 2 else 1, tS B T p))) := by
  refine ⟨fun h => ?_, fun h => ?_⟩
  · have hv := tV_lt h.1
    rw [tdOk, nI_leI (by omega) (by omega), nI_leI (by omega) (by omega)] at h
    refine Rt.one (by omega) ?_
    rw [stp, if_neg hw, if_pos hl, hf, numF, if_pos h.1, if_pos h.2]
    rfl
  · by_cases k0 : tK B T p = 0
    · rw [if_neg (by omega)]
      exact Rd.cut k0 (fun z => hw z.1)
    · refine Rd.bad k0 ?_
      rw [stp, if_neg hw, if_pos hl, hf, numF]
      by_cases k2 : tK B T p = 2
      · have hv := tV_lt k2
        rw [tdOk, nI_leI (by omega) (by omega), nI_leI (by omega) (by omega)] at h
        rw [if_pos k2, if_neg (fun z => h ⟨k2, z⟩), if_pos k2]
        rfl
      · rw [if_neg k2, if_neg k2]
        rfl
theorem fl_tol {c : Nat} (hw : ¬ s.w = 0) (hl : s.f.length < wnt s.w) (hf : tK B T p = 2 ∧ tV B T p < c ∨ ¬ (tK B T p = 2 ∧ tV B T p < c) → fld s (tK B T p) (tV B T p) = tolF c (tK B T p) (tV B T p)) (hc : c < 2000) : (tdOk B T p 0 (nI c - 1) → Rt B T s p (push s (tV B T p)) (tN B T p)) ∧ (¬ tdOk B T p 0 (nI c - 1) → Rd B T s p (.error (if tK B T p = 2 then 3 else 1, tS B T p))) := by
  have hf := hf (Decidable.em _)
  have key : tK B T p = 2 → ((0 ≤ nI (tV B T p) ∧ nI (tV B T p) ≤ nI c - 1) ↔ tV B T p < c) := fun k2 => by
    have hv := tV_lt k2
    rw [Int32.le_iff_toInt_le, Int32.le_iff_toInt_le, nIm1 hc, nI_toInt (by omega), show (0 : Int32).toInt = 0 from rfl]
    omega
  refine ⟨fun h => ?_, fun h => ?_⟩
  · have k2 := h.1
    rw [tdOk, key k2] at h
    refine Rt.one (by omega) ?_
    rw [stp, if_neg hw, if_pos hl, hf, tolF, if_pos k2, if_pos h.2]
    rfl
  · by_cases k0 : tK B T p = 0
    · rw [if_neg (by omega)]
      exact Rd.cut k0 (fun z => hw z.1)
    · refine Rd.bad k0 ?_
      rw [stp, if_neg hw, if_pos hl, hf, tolF]
      by_cases k2 : tK B T p = 2
      · rw [tdOk, key k2] at h
        rw [if_pos k2, if_neg (fun z => h ⟨k2, z⟩), if_pos k2]
        rfl
      · rw [if_neg k2, if_neg k2]
        rfl
set_option maxRecDepth 100000 in
theorem sp_X9_toldPlace (hx : txM mem0 T B) (h : mtk mem0 B T p) (hp : p ≤ T) {K : Nat → Nat} (hr : rowR 20869372 mem0 K) : Cl yX9_toldPlace cX9_toldPlace 1 (some .int) 3 69 [pR 10009909 0] mem0 (fun r mem => r = some (pI (if tdOk B T p 0 (nI (K 37) - 1) then nI (tV B T p) else -1)) ∧ tdP mem0 mem B T p 0 (nI (K 37) - 1) 3) := by
  refine Cl.of (own := RX9) rfl rfl (Nat.le_of_ble_eq_true rfl) rfl ?_; show PR _ _ _ _ _ _ [some _] _ _ _
  refine pr_aload_n 1 dX9_toldPlace_0 rfl rfl rfl ?_
  refine pr_iconst (0) 2 dX9_toldPlace_1 (by decide) rfl ?_
  refine pr_aload_n 3 dX9_toldPlace_2 rfl rfl rfl ?_
  refine pr_getR0 6 dX9_toldPlace_3 fX9_67 rfl ?_
  refine pr_bipush (37) 8 dX9_toldPlace_6 (by decide) rfl ?_
  refine pr_iaload 37 9 dX9_toldPlace_8 rfl rfl rfl (by omega) rfl ?_
  rw [hr.1 37 (by omega) (by omega)]
  refine pr_iconst (1) 10 dX9_toldPlace_9 (by decide) rfl ?_
  refine pr_isub 11 dX9_toldPlace_10 rfl ?_
  refine pr_iconst (3) 12 dX9_toldPlace_11 (by decide) rfl ?_
  refine pr_invDR3 15 dX9_toldPlace_12 vX9_120 mX9_told (sp_X9_told hx h hp 0 (nI (K 37) - 1) 3) ⟨Nat.le_of_ble_eq_true rfl, Nat.le_of_ble_eq_true rfl⟩ (Nat.le_of_ble_eq_true rfl) rfl (fun mem1 h1 => ?_)
  refine pr_ireturn dX9_toldPlace_15 rfl ?_
  exact ⟨rfl, h1⟩
set_option maxRecDepth 100000 in
theorem sp_X9_readPlace (hx : txM mem0 T B) (h : mtk mem0 B T p) (hp : p ≤ T) (hr : rowR 20869372 mem0 s.K) (hw : s.w = 0) (hln : ¬ s.ln = 0) (hk : tK B T p = 6) (hb : s.K 37 ≤ 12) : Cl yX9_readPlace cX9_readPlace 4 (some .boolean) 3 69 [pR 10009909 0] mem0 (fun r mem => ∃ x, r = some (pI x) ∧ LQ mem0 B T s p x mem) := by
  have hN := tN_bd hp (by omega : 2 ≤ tK B T p)
  refine Cl.of (own := RX9) rfl rfl (Nat.le_of_ble_eq_true rfl) rfl ?_; show PR _ _ _ _ _ _ [some _, none, none, none] _ _ _
  by_cases full : s.K 37 = 12
  · refine pr_aload_n 1 dX9_readPlace_0 rfl rfl rfl ?_
    refine pr_getR0 4 dX9_readPlace_1 fX9_67 rfl ?_
    refine pr_bipush (37) 6 dX9_readPlace_4 (by decide) rfl ?_
    refine pr_iaload 37 7 dX9_readPlace_6 rfl rfl rfl (by omega) rfl ?_
    rw [hr.1 37 (by omega) (by omega), full]
    refine pr_istore_n 8 dX9_readPlace_7 rfl (pm_st_1 rfl rfl) rfl ?_
    refine pr_iload_n 9 dX9_readPlace_8 rfl rfl rfl ?_
    refine pr_bipush (12) 11 dX9_readPlace_9 (by decide) rfl ?_
    refine pr_icmp_ne 20 14 dX9_readPlace_11 rfl rfl (fun c_11 => absurd (rfl) (c_11)) (fun c_11 => ?_)
    refine pr_aload_n 15 dX9_readPlace_14 rfl rfl rfl ?_
    refine pr_iconst (4) 16 dX9_readPlace_15 (by decide) rfl ?_
    refine pr_invDR1 19 dX9_readPlace_16 vX9_110 mX9_bad (sp_X9_bad h 4) ⟨Nat.le_of_ble_eq_true rfl, Nat.le_of_ble_eq_true rfl⟩ (Nat.le_of_ble_eq_true rfl) rfl (fun mem1 h1 => ?_)
    refine pr_zreturn dX9_readPlace_19 rfl (by first | exact Or.inl rfl | exact Or.inr rfl) ?_
    refine ⟨0, rfl, h1.1.ln, Or.inr ⟨rfl, 4, tS B T p, Rd.bad (by omega) ?_, ?_, h1.2.2.2⟩⟩
    · rw [hk, stp, if_pos hw, if_neg (by omega)]
      simp [full]
    · have := h1.2.2.1
      rw [hk] at this
      exact this
  have hbeg : stp s 6 (tV B T p) = .ok (begL s 6) := by
    rw [stp, if_pos hw, if_neg (by omega)]
    simp [show s.K 37 < 12 by omega]
  have R1 : Rt B T s p (begL s 6) (tN B T p) := Rt.one (by omega) (by rw [hk]; exact hbeg)
  have F1 := fl_num (B := B) (T := T) (p := tN B T p) (s := begL s 6) (lo := 0) (hi := 99) (show ¬ 6 = 0 by decide) (show 0 < wnt 6 by decide) (fun _ _ => rfl) (by decide)
  have head : ∀ X, (∀ mem1, goF mem0 mem1 → mtk mem1 B T (tN B T p) → PR cX9_readPlace RX9 4 3 69 24 [some (pR 10009909 0), some (pI (nI (s.K 37))), none, none] [] mem1 X) → PR cX9_readPlace RX9 4 3 69 0 [some (pR 10009909 0), none, none, none] [] mem0 X := by
    intro X hX
    refine pr_aload_n 1 dX9_readPlace_0 rfl rfl rfl ?_
    refine pr_getR0 4 dX9_readPlace_1 fX9_67 rfl ?_
    refine pr_bipush (37) 6 dX9_readPlace_4 (by decide) rfl ?_
    refine pr_iaload 37 7 dX9_readPlace_6 rfl rfl rfl (by omega) rfl ?_
    rw [hr.1 37 (by omega) (by omega)]
    refine pr_istore_n 8 dX9_readPlace_7 rfl (pm_st_1 rfl rfl) rfl ?_
    refine pr_iload_n 9 dX9_readPlace_8 rfl rfl rfl ?_
    refine pr_bipush (12) 11 dX9_readPlace_9 (by decide) rfl ?_
    refine pr_icmp_ne 20 14 dX9_readPlace_11 rfl rfl (fun c_11 => ?_) (fun c_11 => absurd (c_11) (fun z => full ((nI_eq (b := 12) (by omega) (by omega)).mp z)))
    refine pr_aload_n 21 dX9_readPlace_20 rfl rfl rfl ?_
    refine pr_inv0R0 24 dX9_readPlace_21 vX9_117 mX9_go (sp_X9_go hx.1 hx.2.1 hx.2.2.1 hx.2.2.2 hN.2.1 (h.2.2.1 (by omega))) ⟨Nat.le_of_ble_eq_true rfl, Nat.le_of_ble_eq_true rfl⟩ (Nat.le_of_ble_eq_true rfl) rfl (fun mem1 h1 => ?_)
    exact hX mem1 h1.1 h1.2
  refine head _ (fun mem1 g1 m1 => ?_)
  have x1 := hx.go g1
  by_cases o1 : tdOk B T (tN B T p) (nI 0) (nI 99)
  · have R2 := R1.tr (F1.1 o1)
    have v1 := tV_lt o1.1
    have hN2 := tN_bd hN.2.1 (by have := o1.1; omega : 2 ≤ tK B T (tN B T p))
    have F2 := fl_num (B := B) (T := T) (p := tN B T (tN B T p)) (s := push (begL s 6) (tV B T (tN B T p))) (lo := 0) (hi := 99) (show ¬ 6 = 0 by decide) (show 1 < wnt 6 by decide) (fun _ _ => rfl) (by decide)
    refine pr_aload_n 25 dX9_readPlace_24 rfl rfl rfl ?_
    refine pr_iconst (0) 26 dX9_readPlace_25 (by decide) rfl ?_
    refine pr_bipush (99) 28 dX9_readPlace_26 (by decide) rfl ?_
    refine pr_iconst (2) 29 dX9_readPlace_28 (by decide) rfl ?_
    refine pr_invDR3 32 dX9_readPlace_29 vX9_120 mX9_told (sp_X9_told x1 m1 hN.2.1 (nI 0) (nI 99) 2) ⟨Nat.le_of_ble_eq_true rfl, Nat.le_of_ble_eq_true rfl⟩ (Nat.le_of_ble_eq_true rfl) rfl (fun mem2 h2 => ?_)
    rw [if_pos o1]
    rw [tdP, if_pos o1] at h2
    obtain ⟨g2, m2⟩ := h2
    have x2 := x1.go g2
    refine pr_istore_n 33 dX9_readPlace_32 rfl (pm_st_2 rfl rfl) rfl ?_
    refine pr_iload_n 34 dX9_readPlace_33 rfl rfl rfl ?_
    refine pr_iconst (-1) 35 dX9_readPlace_34 (by decide) rfl ?_
    refine pr_icmp_ne 42 38 dX9_readPlace_35 rfl rfl (fun c_35 => ?_) (fun c_35 => absurd (c_35) (nI_nm (by omega)))
    refine pr_aload_n 43 dX9_readPlace_42 rfl rfl rfl ?_
    refine pr_iconst (0) 44 dX9_readPlace_43 (by decide) rfl ?_
    refine pr_bipush (99) 46 dX9_readPlace_44 (by decide) rfl ?_
    refine pr_iconst (2) 47 dX9_readPlace_46 (by decide) rfl ?_
    refine pr_invDR3 50 dX9_readPlace_47 vX9_120 mX9_told (sp_X9_told x2 m2 hN2.2.1 (nI 0) (nI 99) 2) ⟨Nat.le_of_ble_eq_true rfl, Nat.le_of_ble_eq_true rfl⟩ (Nat.le_of_ble_eq_true rfl) rfl (fun mem3 h3 => ?_)
    by_cases o2 : tdOk B T (tN B T (tN B T p)) (nI 0) (nI 99)
    · rw [if_pos o2]
      rw [tdP, if_pos o2] at h3
      obtain ⟨g3, m3⟩ := h3
      have R3 := R2.tr (F2.1 o2)
      have v2 := tV_lt o2.1
      have hN3 := tN_bd hN2.2.1 (by have := o2.1; omega : 2 ≤ tK B T (tN B T (tN B T p)))
      have r3 := goF.row (goF.row (goF.row hr g1) g2) g3
      refine pr_istore_n 51 dX9_readPlace_50 rfl (pm_st_3 rfl rfl) rfl ?_
      refine pr_iload_n 52 dX9_readPlace_51 rfl rfl rfl ?_
      refine pr_iconst (-1) 53 dX9_readPlace_52 (by decide) rfl ?_
      refine pr_icmp_ne 58 56 dX9_readPlace_53 rfl rfl (fun c_53 => ?_) (fun c_53 => absurd (c_53) (nI_nm (by omega)))
      refine pr_aload_n 59 dX9_readPlace_58 rfl rfl rfl ?_
      refine pr_getR0 62 dX9_readPlace_59 fX9_67 rfl ?_
      refine pr_bipush (41) 64 dX9_readPlace_62 (by decide) rfl ?_
      refine pr_iload_n 65 dX9_readPlace_64 rfl rfl rfl ?_
      refine pr_iadd 66 dX9_readPlace_65 rfl ?_
      refine pr_iload_n 67 dX9_readPlace_66 rfl rfl rfl ?_
      refine pr_iastore (41 + s.K 37) 68 dX9_readPlace_67 rfl rfl (nI_add 41 _) (by omega) rfl ?_
      refine pr_aload_n 69 dX9_readPlace_68 rfl rfl rfl ?_
      refine pr_getR0 72 dX9_readPlace_69 fX9_67 rfl ?_
      refine pr_bipush (53) 74 dX9_readPlace_72 (by decide) rfl ?_
      refine pr_iload_n 75 dX9_readPlace_74 rfl rfl rfl ?_
      refine pr_iadd 76 dX9_readPlace_75 rfl ?_
      refine pr_iload_n 77 dX9_readPlace_76 rfl rfl rfl ?_
      refine pr_iastore (53 + s.K 37) 78 dX9_readPlace_77 rfl rfl (nI_add 53 _) (by omega) rfl ?_
      refine pr_aload_n 79 dX9_readPlace_78 rfl rfl rfl ?_
      refine pr_getR0 82 dX9_readPlace_79 fX9_67 rfl ?_
      refine pr_bipush (37) 84 dX9_readPlace_82 (by decide) rfl ?_
      refine pr_dup2 rfl rfl 85 dX9_readPlace_84 rfl ?_
      refine pr_iaload 37 86 dX9_readPlace_85 rfl rfl rfl (by omega) rfl ?_
      rw [pm_gIn (by simp; omega), pm_gIn (by simp; omega), r3.1 37 (by omega) (by omega)]
      refine pr_iconst (1) 87 dX9_readPlace_86 (by decide) rfl ?_
      refine pr_iadd 88 dX9_readPlace_87 rfl ?_
      rw [nI_1]
      refine pr_iastore 37 89 dX9_readPlace_88 rfl rfl rfl (by omega) rfl ?_
      refine pr_iconst (1) 90 dX9_readPlace_89 (by decide) rfl ?_
      refine pr_zreturn dX9_readPlace_90 rfl (by first | exact Or.inl rfl | exact Or.inr rfl) ?_
      refine ⟨1, rfl, (((g1.ln.tr g2.ln).tr g3.ln).u.u).u, Or.inl ⟨rfl, push (push (begL s 6) (tV B T (tN B T p))) (tV B T (tN B T (tN B T p))), _, R3, ?_, m3.u.u.u, hN3.2.1, (show ¬ 6 = 0 by decide), rfl, fun _ => rfl, fun a b => ?_⟩⟩
      · exact ((r3.w (k := 41 + s.K 37) (v := tV B T (tN B T p)) (by omega) (by rw [cdI, if_neg (by omega)])).w (k := 53 + s.K 37) (v := tV B T (tN B T (tN B T p))) (by omega) (by rw [cdI, if_neg (by omega)])).w (k := 37) (v := s.K 37 + 1) (by omega) (by rw [cdI, if_neg (by omega)])
      · show (if tK B T _ = 3 then _ else _) = _
        rw [if_neg a]
    · rw [if_neg o2]
      rw [tdP, if_neg o2] at h3
      refine pr_istore_n 51 dX9_readPlace_50 rfl (pm_st_3 rfl rfl) rfl ?_
      refine pr_iload_n 52 dX9_readPlace_51 rfl rfl rfl ?_
      refine pr_iconst (-1) 53 dX9_readPlace_52 (by decide) rfl ?_
      refine pr_icmp_ne 58 56 dX9_readPlace_53 rfl rfl (fun c_53 => absurd (rfl) (c_53)) (fun c_53 => ?_)
      refine pr_iconst (0) 57 dX9_readPlace_56 (by decide) rfl ?_
      refine pr_zreturn dX9_readPlace_57 rfl (by first | exact Or.inl rfl | exact Or.inr rfl) ?_
      exact ⟨0, rfl, ((g1.ln.tr g2.ln).tr h3.1.ln), Or.inr ⟨rfl, _, _, R2.1 _ (F2.2 o2), h3.2.1, h3.2.2⟩⟩
  · refine pr_aload_n 25 dX9_readPlace_24 rfl rfl rfl ?_
    refine pr_iconst (0) 26 dX9_readPlace_25 (by decide) rfl ?_
    refine pr_bipush (99) 28 dX9_readPlace_26 (by decide) rfl ?_
    refine pr_iconst (2) 29 dX9_readPlace_28 (by decide) rfl ?_
    refine pr_invDR3 32 dX9_readPlace_29 vX9_120 mX9_told (sp_X9_told x1 m1 hN.2.1 (nI 0) (nI 99) 2) ⟨Nat.le_of_ble_eq_true rfl, Nat.le_of_ble_eq_true rfl⟩ (Nat.le_of_ble_eq_true rfl) rfl (fun mem2 h2 => ?_)
    rw [if_neg o1]
    rw [tdP, if_neg o1] at h2
    refine pr_istore_n 33 dX9_readPlace_32 rfl (pm_st_2 rfl rfl) rfl ?_
    refine pr_iload_n 34 dX9_readPlace_33 rfl rfl rfl ?_
    refine pr_iconst (-1) 35 dX9_readPlace_34 (by decide) rfl ?_
    refine pr_icmp_ne 42 38 dX9_readPlace_35 rfl rfl (fun c_35 => absurd (rfl) (c_35)) (fun c_35 => ?_)
    refine pr_iconst (-1) 39 dX9_readPlace_38 (by decide) rfl ?_
    refine pr_goto 50 dX9_readPlace_39 rfl ?_
    refine pr_istore_n 51 dX9_readPlace_50 rfl (pm_st_3 rfl rfl) rfl ?_
    refine pr_iload_n 52 dX9_readPlace_51 rfl rfl rfl ?_
    refine pr_iconst (-1) 53 dX9_readPlace_52 (by decide) rfl ?_
    refine pr_icmp_ne 58 56 dX9_readPlace_53 rfl rfl (fun c_53 => absurd (rfl) (c_53)) (fun c_53 => ?_)
    refine pr_iconst (0) 57 dX9_readPlace_56 (by decide) rfl ?_
    refine pr_zreturn dX9_readPlace_57 rfl (by first | exact Or.inl rfl | exact Or.inr rfl) ?_
    exact ⟨0, rfl, (g1.ln.tr h2.1.ln), Or.inr ⟨rfl, _, _, R1.1 _ (F1.2 o1), h2.2.1, h2.2.2⟩⟩
set_option maxRecDepth 100000 in
theorem sp_X9_readTruck (hx : txM mem0 T B) (h : mtk mem0 B T p) (hp : p ≤ T) (hr : rowR 20869372 mem0 s.K) (hw : s.w = 0) (hln : ¬ s.ln = 0) (hk : tK B T p = 7) (hb : s.K 38 ≤ 4) : Cl yX9_readTruck cX9_readTruck 4 (some .boolean) 3 69 [pR 10009909 0] mem0 (fun r mem => ∃ x, r = some (pI x) ∧ LQ mem0 B T s p x mem) := by
  have hN := tN_bd hp (by omega : 2 ≤ tK B T p)
  refine Cl.of (own := RX9) rfl rfl (Nat.le_of_ble_eq_true rfl) rfl ?_; show PR _ _ _ _ _ _ [some _, none, none, none] _ _ _
  by_cases full : s.K 38 = 4
  · refine pr_aload_n 1 dX9_readTruck_0 rfl rfl rfl ?_
    refine pr_getR0 4 dX9_readTruck_1 fX9_67 rfl ?_
    refine pr_bipush (38) 6 dX9_readTruck_4 (by decide) rfl ?_
    refine pr_iaload 38 7 dX9_readTruck_6 rfl rfl rfl (by omega) rfl ?_
    rw [hr.1 38 (by omega) (by omega), full]
    refine pr_istore_n 8 dX9_readTruck_7 rfl (pm_st_1 rfl rfl) rfl ?_
    refine pr_iload_n 9 dX9_readTruck_8 rfl rfl rfl ?_
    refine pr_iconst (4) 10 dX9_readTruck_9 (by decide) rfl ?_
    refine pr_icmp_ne 19 13 dX9_readTruck_10 rfl rfl (fun c_10 => absurd (rfl) (c_10)) (fun c_10 => ?_)
    refine pr_aload_n 14 dX9_readTruck_13 rfl rfl rfl ?_
    refine pr_iconst (4) 15 dX9_readTruck_14 (by decide) rfl ?_
    refine pr_invDR1 18 dX9_readTruck_15 vX9_110 mX9_bad (sp_X9_bad h 4) ⟨Nat.le_of_ble_eq_true rfl, Nat.le_of_ble_eq_true rfl⟩ (Nat.le_of_ble_eq_true rfl) rfl (fun mem1 h1 => ?_)
    refine pr_zreturn dX9_readTruck_18 rfl (by first | exact Or.inl rfl | exact Or.inr rfl) ?_
    refine ⟨0, rfl, h1.1.ln, Or.inr ⟨rfl, 4, tS B T p, Rd.bad (by omega) ?_, ?_, h1.2.2.2⟩⟩
    · rw [hk, stp, if_pos hw, if_neg (by omega)]
      simp [full]
    · have := h1.2.2.1
      rw [hk] at this
      exact this
  have hbeg : stp s 7 (tV B T p) = .ok (begL s 7) := by
    rw [stp, if_pos hw, if_neg (by omega)]
    simp [show s.K 38 < 4 by omega]
  have R1 : Rt B T s p (begL s 7) (tN B T p) := Rt.one (by omega) (by rw [hk]; exact hbeg)
  have F1 := fl_num (B := B) (T := T) (p := tN B T p) (s := begL s 7) (lo := 0) (hi := 999) (show ¬ 7 = 0 by decide) (show 0 < wnt 7 by decide) (fun _ _ => rfl) (by decide)
  have head : ∀ X, (∀ mem1, goF mem0 mem1 → mtk mem1 B T (tN B T p) → PR cX9_readTruck RX9 4 3 69 23 [some (pR 10009909 0), some (pI (nI (s.K 38))), none, none] [] mem1 X) → PR cX9_readTruck RX9 4 3 69 0 [some (pR 10009909 0), none, none, none] [] mem0 X := by
    intro X hX
    refine pr_aload_n 1 dX9_readTruck_0 rfl rfl rfl ?_
    refine pr_getR0 4 dX9_readTruck_1 fX9_67 rfl ?_
    refine pr_bipush (38) 6 dX9_readTruck_4 (by decide) rfl ?_
    refine pr_iaload 38 7 dX9_readTruck_6 rfl rfl rfl (by omega) rfl ?_
    rw [hr.1 38 (by omega) (by omega)]
    refine pr_istore_n 8 dX9_readTruck_7 rfl (pm_st_1 rfl rfl) rfl ?_
    refine pr_iload_n 9 dX9_readTruck_8 rfl rfl rfl ?_
    refine pr_iconst (4) 10 dX9_readTruck_9 (by decide) rfl ?_
    refine pr_icmp_ne 19 13 dX9_readTruck_10 rfl rfl (fun c_10 => ?_) (fun c_10 => absurd (c_10) (fun z => full ((nI_eq (b := 4) (by omega) (by omega)).mp z)))
    refine pr_aload_n 20 dX9_readTruck_19 rfl rfl rfl ?_
    refine pr_inv0R0 23 dX9_readTruck_20 vX9_117 mX9_go (sp_X9_go hx.1 hx.2.1 hx.2.2.1 hx.2.2.2 hN.2.1 (h.2.2.1 (by omega))) ⟨Nat.le_of_ble_eq_true rfl, Nat.le_of_ble_eq_true rfl⟩ (Nat.le_of_ble_eq_true rfl) rfl (fun mem1 h1 => ?_)
    exact hX mem1 h1.1 h1.2
  refine head _ (fun mem1 g1 m1 => ?_)
  have x1 := hx.go g1
  by_cases o1 : tdOk B T (tN B T p) (nI 0) (nI 999)
  · have R2 := R1.tr (F1.1 o1)
    have v1 := tV_lt o1.1
    have hN2 := tN_bd hN.2.1 (by have := o1.1; omega : 2 ≤ tK B T (tN B T p))
    have F2 := fl_num (B := B) (T := T) (p := tN B T (tN B T p)) (s := push (begL s 7) (tV B T (tN B T p))) (lo := 0) (hi := 9999) (show ¬ 7 = 0 by decide) (show 1 < wnt 7 by decide) (fun _ _ => rfl) (by decide)
    refine pr_aload_n 24 dX9_readTruck_23 rfl rfl rfl ?_
    refine pr_iconst (0) 25 dX9_readTruck_24 (by decide) rfl ?_
    refine pr_sipush (999) 28 dX9_readTruck_25 (by decide) rfl ?_
    refine pr_iconst (2) 29 dX9_readTruck_28 (by decide) rfl ?_
    refine pr_invDR3 32 dX9_readTruck_29 vX9_120 mX9_told (sp_X9_told x1 m1 hN.2.1 (nI 0) (nI 999) 2) ⟨Nat.le_of_ble_eq_true rfl, Nat.le_of_ble_eq_true rfl⟩ (Nat.le_of_ble_eq_true rfl) rfl (fun mem2 h2 => ?_)
    rw [if_pos o1]
    rw [tdP, if_pos o1] at h2
    obtain ⟨g2, m2⟩ := h2
    have x2 := x1.go g2
    refine pr_istore_n 33 dX9_readTruck_32 rfl (pm_st_2 rfl rfl) rfl ?_
    refine pr_iload_n 34 dX9_readTruck_33 rfl rfl rfl ?_
    refine pr_iconst (-1) 35 dX9_readTruck_34 (by decide) rfl ?_
    refine pr_icmp_ne 42 38 dX9_readTruck_35 rfl rfl (fun c_35 => ?_) (fun c_35 => absurd (c_35) (nI_nm (by omega)))
    refine pr_aload_n 43 dX9_readTruck_42 rfl rfl rfl ?_
    refine pr_iconst (0) 44 dX9_readTruck_43 (by decide) rfl ?_
    refine pr_sipush (9999) 47 dX9_readTruck_44 (by decide) rfl ?_
    refine pr_iconst (2) 48 dX9_readTruck_47 (by decide) rfl ?_
    refine pr_invDR3 51 dX9_readTruck_48 vX9_120 mX9_told (sp_X9_told x2 m2 hN2.2.1 (nI 0) (nI 9999) 2) ⟨Nat.le_of_ble_eq_true rfl, Nat.le_of_ble_eq_true rfl⟩ (Nat.le_of_ble_eq_true rfl) rfl (fun mem3 h3 => ?_)
    by_cases o2 : tdOk B T (tN B T (tN B T p)) (nI 0) (nI 9999)
    · rw [if_pos o2]
      rw [tdP, if_pos o2] at h3
      obtain ⟨g3, m3⟩ := h3
      have R3 := R2.tr (F2.1 o2)
      have v2 := tV_lt o2.1
      have hN3 := tN_bd hN2.2.1 (by have := o2.1; omega : 2 ≤ tK B T (tN B T (tN B T p)))
      have r3 := goF.row (goF.row (goF.row hr g1) g2) g3
      refine pr_istore_n 52 dX9_readTruck_51 rfl (pm_st_3 rfl rfl) rfl ?_
      refine pr_iload_n 53 dX9_readTruck_52 rfl rfl rfl ?_
      refine pr_iconst (-1) 54 dX9_readTruck_53 (by decide) rfl ?_
      refine pr_icmp_ne 59 57 dX9_readTruck_54 rfl rfl (fun c_54 => ?_) (fun c_54 => absurd (c_54) (nI_nm (by omega)))
      refine pr_aload_n 60 dX9_readTruck_59 rfl rfl rfl ?_
      refine pr_getR0 63 dX9_readTruck_60 fX9_67 rfl ?_
      refine pr_bipush (65) 65 dX9_readTruck_63 (by decide) rfl ?_
      refine pr_iload_n 66 dX9_readTruck_65 rfl rfl rfl ?_
      refine pr_iadd 67 dX9_readTruck_66 rfl ?_
      refine pr_iload_n 68 dX9_readTruck_67 rfl rfl rfl ?_
      refine pr_iastore (65 + s.K 38) 69 dX9_readTruck_68 rfl rfl (nI_add 65 _) (by omega) rfl ?_
      refine pr_aload_n 70 dX9_readTruck_69 rfl rfl rfl ?_
      refine pr_getR0 73 dX9_readTruck_70 fX9_67 rfl ?_
      refine pr_iconst (0) 74 dX9_readTruck_73 (by decide) rfl ?_
      refine pr_iload_n 75 dX9_readTruck_74 rfl rfl rfl ?_
      refine pr_iadd 76 dX9_readTruck_75 rfl ?_
      refine pr_iload_n 77 dX9_readTruck_76 rfl rfl rfl ?_
      refine pr_iastore (s.K 38) 78 dX9_readTruck_77 rfl rfl (by rw [← nI_0, nI_add, Nat.zero_add]) (by omega) rfl ?_
      refine pr_aload_n 79 dX9_readTruck_78 rfl rfl rfl ?_
      refine pr_getR0 82 dX9_readTruck_79 fX9_67 rfl ?_
      refine pr_bipush (38) 84 dX9_readTruck_82 (by decide) rfl ?_
      refine pr_dup2 rfl rfl 85 dX9_readTruck_84 rfl ?_
      refine pr_iaload 38 86 dX9_readTruck_85 rfl rfl rfl (by omega) rfl ?_
      rw [pm_gIn (by simp; omega), pm_gIn (by simp; omega), r3.1 38 (by omega) (by omega)]
      refine pr_iconst (1) 87 dX9_readTruck_86 (by decide) rfl ?_
      refine pr_iadd 88 dX9_readTruck_87 rfl ?_
      rw [nI_1]
      refine pr_iastore 38 89 dX9_readTruck_88 rfl rfl rfl (by omega) rfl ?_
      refine pr_iconst (1) 90 dX9_readTruck_89 (by decide) rfl ?_
      refine pr_zreturn dX9_readTruck_90 rfl (by first | exact Or.inl rfl | exact Or.inr rfl) ?_
      refine ⟨1, rfl, (((g1.ln.tr g2.ln).tr g3.ln).u.u).u, Or.inl ⟨rfl, push (push (begL s 7) (tV B T (tN B T p))) (tV B T (tN B T (tN B T p))), _, R3, ?_, m3.u.u.u, hN3.2.1, (show ¬ 7 = 0 by decide), rfl, fun _ => rfl, fun a b => ?_⟩⟩
      · exact ((r3.w (k := 65 + s.K 38) (v := tV B T (tN B T p)) (by omega) (by rw [cdI, if_neg (by omega)])).w (k := s.K 38) (v := tV B T (tN B T (tN B T p))) (by omega) (by rw [cdI, if_neg (by omega)])).w (k := 38) (v := s.K 38 + 1) (by omega) (by rw [cdI, if_neg (by omega)])
      · show (if tK B T _ = 3 then _ else _) = _
        rw [if_neg a]
    · rw [if_neg o2]
      rw [tdP, if_neg o2] at h3
      refine pr_istore_n 52 dX9_readTruck_51 rfl (pm_st_3 rfl rfl) rfl ?_
      refine pr_iload_n 53 dX9_readTruck_52 rfl rfl rfl ?_
      refine pr_iconst (-1) 54 dX9_readTruck_53 (by decide) rfl ?_
      refine pr_icmp_ne 59 57 dX9_readTruck_54 rfl rfl (fun c_54 => absurd (rfl) (c_54)) (fun c_54 => ?_)
      refine pr_iconst (0) 58 dX9_readTruck_57 (by decide) rfl ?_
      refine pr_zreturn dX9_readTruck_58 rfl (by first | exact Or.inl rfl | exact Or.inr rfl) ?_
      exact ⟨0, rfl, ((g1.ln.tr g2.ln).tr h3.1.ln), Or.inr ⟨rfl, _, _, R2.1 _ (F2.2 o2), h3.2.1, h3.2.2⟩⟩
  · refine pr_aload_n 24 dX9_readTruck_23 rfl rfl rfl ?_
    refine pr_iconst (0) 25 dX9_readTruck_24 (by decide) rfl ?_
    refine pr_sipush (999) 28 dX9_readTruck_25 (by decide) rfl ?_
    refine pr_iconst (2) 29 dX9_readTruck_28 (by decide) rfl ?_
    refine pr_invDR3 32 dX9_readTruck_29 vX9_120 mX9_told (sp_X9_told x1 m1 hN.2.1 (nI 0) (nI 999) 2) ⟨Nat.le_of_ble_eq_true rfl, Nat.le_of_ble_eq_true rfl⟩ (Nat.le_of_ble_eq_true rfl) rfl (fun mem2 h2 => ?_)
    rw [if_neg o1]
    rw [tdP, if_neg o1] at h2
    refine pr_istore_n 33 dX9_readTruck_32 rfl (pm_st_2 rfl rfl) rfl ?_
    refine pr_iload_n 34 dX9_readTruck_33 rfl rfl rfl ?_
    refine pr_iconst (-1) 35 dX9_readTruck_34 (by decide) rfl ?_
    refine pr_icmp_ne 42 38 dX9_readTruck_35 rfl rfl (fun c_35 => absurd (rfl) (c_35)) (fun c_35 => ?_)
    refine pr_iconst (-1) 39 dX9_readTruck_38 (by decide) rfl ?_
    refine pr_goto 51 dX9_readTruck_39 rfl ?_
    refine pr_istore_n 52 dX9_readTruck_51 rfl (pm_st_3 rfl rfl) rfl ?_
    refine pr_iload_n 53 dX9_readTruck_52 rfl rfl rfl ?_
    refine pr_iconst (-1) 54 dX9_readTruck_53 (by decide) rfl ?_
    refine pr_icmp_ne 59 57 dX9_readTruck_54 rfl rfl (fun c_54 => absurd (rfl) (c_54)) (fun c_54 => ?_)
    refine pr_iconst (0) 58 dX9_readTruck_57 (by decide) rfl ?_
    refine pr_zreturn dX9_readTruck_58 rfl (by first | exact Or.inl rfl | exact Or.inr rfl) ?_
    exact ⟨0, rfl, (g1.ln.tr h2.1.ln), Or.inr ⟨rfl, _, _, R1.1 _ (F1.2 o1), h2.2.1, h2.2.2⟩⟩
end MLN
