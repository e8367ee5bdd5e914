/-! on paper; what is settled -/
def vw (w : Int32) (n : Nat) : Option Nat := if 1 ≤ w.toInt ∧ w.toInt < n then some w.toInt.toNat else none
theorem vw_some {w : Int32} {n v : Nat} (hn : n < 2000) (h : vw w n = some v) : w = nI v ∧ 1 ≤ v ∧ v < n := by
  unfold vw at h
  split at h
  next hc =>
    cases h
    refine ⟨?_, by omega, by omega⟩
    apply Int32.toInt_inj.mp
    rw [nI_toInt (by omega)]
    omega
  · cases h
theorem nIm1 {n : Nat} (hn : n < 2000) : (nI n - 1).toInt = (n : Int) - 1 := by
  rw [Int32.toInt_sub, nI_toInt (by omega), show (1 : Int32).toInt = 1 from rfl]
  apply Int.bmod_eq_of_le <;> omega
theorem vw_none {w : Int32} {n : Nat} (hn : n < 2000) (h : vw w n = none) : ¬ (1 ≤ w ∧ w ≤ nI n - 1) := by
  unfold vw at h
  split at h
  · cases h
  next hc =>
    rw [Int32.le_iff_toInt_le, Int32.le_iff_toInt_le, nIm1 hn, show (1 : Int32).toInt = 1 from rfl]
    omega
theorem vw_noneC {w : Int32} {n : Nat} (hn : n < 2000) (h : vw w n = none) (h1 : ¬ w < 1) (h2 : ¬ nI n ≤ w) : False := by
  unfold vw at h
  split at h
  · cases h
  next hc =>
    rw [Int32.lt_iff_toInt_lt, show (1 : Int32).toInt = 1 from rfl] at h1
    rw [Int32.le_iff_toInt_le, nI_toInt (by omega)] at h2
    omega
theorem vix_ne {p : Int32} {m : Nat} (hm : m < 2000) (h1 : ¬ p < 0) (h2 : p ≤ nI m) : ¬ vix p (m + 1) = none := by
  unfold vix
  rw [Int32.lt_iff_toInt_lt, show (0 : Int32).toInt = 0 from rfl] at h1
  rw [Int32.le_iff_toInt_le, nI_toInt (by omega)] at h2
  rw [if_pos (by omega)]
  simp
def spW (K : Nat → Nat) (j v : Nat) : Nat → Nat := fun k => if k = j then v else if k = K 39 then K (20 + j) - v else K (20 + k)
def spL (K : Nat → Nat) (j : Nat) : Nat → Nat := fun k => if k = K 39 then j else k
def woW (K : Nat → Nat) (j : Nat) : Nat → Nat := fun k => if k = j then 0 else K (20 + k)
def q_split (K : Nat → Nat) (l w c : Int32) : Int32 := (vix l (K 39)).elim (-1) (fun j => (vw w (K (20 + j))).elim (-1) (fun v => (vix c 2).elim (-1) (fun e => if K 39 = 16 then -1 else nI (if e = 1 then shr K (spW K j v) (spL K j) (K 39 + 1) j else shr K (spW K j v) (spL K j) (K 39 + 1) j + shr K (spW K j v) (spL K j) (K 39 + 1) (K 39)))))
def q_without (K : Nat → Nat) (l o : Int32) : Int32 := (vix l (K 39)).elim (-1) (fun j => (vix o (K 39)).elim (-1) (fun i => if j = i then -1 else nI (shr K (woW K j) ai (K 39) i)))
theorem spWL {K : Nat → Nat} (hW : WF K) {j v : Nat} (hj : j < K 39) (hv : v ≤ K (20 + j)) (h16 : ¬ K 39 = 16) : WL K (spW K j v) (spL K j) (K 39 + 1) := by
  have hn16 := hW.2.2.2.1
  have hw := (hW.2.2.2.2.2.2.2.1 j hj).1
  refine ⟨by omega, fun l hl => ⟨?_, ?_⟩⟩
  · unfold spW
    by_cases a : l = j
    · rw [if_pos a]; omega
    · rw [if_neg a]
      by_cases b : l = K 39
      · rw [if_pos b]; omega
      · rw [if_neg b]; exact (hW.2.2.2.2.2.2.2.1 l (by omega)).1
  · unfold spL
    by_cases b : l = K 39
    · rw [if_pos b]; exact hj
    · rw [if_neg b]; omega
theorem woWL {K : Nat → Nat} (hW : WF K) (j : Nat) : WL K (woW K j) ai (K 39) := by
  refine ⟨hW.2.2.2.1, fun l hl => ⟨?_, hl⟩⟩
  unfold woW
  by_cases a : l = j
  · rw [if_pos a]; omega
  · rw [if_neg a]; exact (hW.2.2.2.2.2.2.2.1 l (by omega)).1
section PAP
variable {mem mem0 : pm_M} {d : Nat} {K : Nat → Nat}
theorem IC.paper (h : IC mem0 d K) (hW : WF K) (hf : pm_fr (sSe 1) mem0 mem) : IC mem d K := by
  have h16 := hW.2.2.2.2.1
  obtain ⟨h1, hd, hr, hg, hx, hw, hA⟩ := h
  refine ⟨by rw [(hf _ _ (by simp [sSe])).2.2]; exact h1, hd.fr hf (sSe_desk _), hr.fr hf sSe_rout, hg.fr hf (by simp [sSe]), ?_, ?_, ?_⟩
  · rw [(hf 20016210 0 (by simp [sSe])).1, (hf 20016211 0 (by simp [sSe])).1, (hf 20016209 0 (by simp [sSe])).1]
    intro l hl
    refine ⟨(hx l hl).1, (hx l hl).2.1, (hx l hl).2.2.1, fun p hp => ?_⟩
    rw [(hf 20012608 l (by simp [sSe])).1]
    exact (hx l hl).2.2.2 p hp
  · intro a b ha hb
    rw [(hf 20012607 a (by simp [sSe])).1]
    exact hw a b ha hb
  · obtain ⟨a1, a2, a3, a4, a5, a6⟩ := hA
    refine ⟨?_, ?_, ?_, ?_, ?_, ?_⟩
    · intro t ht; rw [(hf 20016086 0 (by simp [sSe])).1]; exact a1 t ht
    · intro t ht; rw [(hf 20016087 0 (by simp [sSe])).1]; exact a2 t ht
    · intro t ht
      rw [(hf 20016089 0 (by simp [sSe])).1, (hf 20016488 (16 * 0 + t) (by simp [sSe]; omega)).1]
      exact a3 t ht
    · intro t ht
      rw [(hf 20016090 0 (by simp [sSe])).1, (hf 20016091 0 (by simp [sSe])).1, (hf 20016492 (16 * 0 + t) (by simp [sSe]; omega)).1]
      exact a4 t ht
    · rw [(hf 10002902 0 (by simp [sSe])).1]; exact a5
    · intro l hl
      rw [(hf 20016094 0 (by simp [sSe])).1, (hf 20016095 0 (by simp [sSe])).1]
      exact a6 l hl
theorem sTk_Se (L : Nat) : ∀ t i, sTk L t i → sSe L t i := fun t i h => Or.inl ⟨by have := h.1; simp; omega, h.2⟩
set_option maxRecDepth 100000 in
theorem sp_X8_settle (h1 : mem0.2.2 10008908 0 6 = some d) (hd : deskR mem0 d K) (hr : routR mem0 K) (hW : WF K) : Cl yX8_settle cX8_settle 1 none 4 98 [pR 10008908 0] mem0 (fun r mem => r = none ∧ pm_fr (sSe 0) mem0 mem ∧ acR mem 0 K (aw K) ai (K 39)) := by
  refine Cl.of (own := RX8) rfl rfl (Nat.le_of_ble_eq_true rfl) rfl ?_; show PR _ _ _ _ _ _ [some _] _ _ _
  refine pr_aload_n 1 dX8_settle_0 rfl rfl rfl ?_
  refine pr_getR0 4 dX8_settle_1 fX8_35 rfl ?_
  refine pr_aload_n 5 dX8_settle_4 rfl rfl rfl ?_
  refine pr_getP d 8 dX8_settle_5 fX8_52 h1 rfl ?_
  refine pr_inv0R1 11 dX8_settle_8 vX8_256 mX2_takeLoads (sp_X2_takeLoads (L := 0) hd hW) ⟨Nat.le_of_ble_eq_true rfl, Nat.le_of_ble_eq_true rfl⟩ (Nat.le_of_ble_eq_true rfl) rfl (fun mem1 h2 => ?_)
  obtain ⟨f2, w2⟩ := h2
  have f2' := f2.mono (sTk_Se 0)
  have p2 : mem1.2.2 10008908 0 6 = some d := by rw [(f2' _ _ (by simp [sSe])).2.2]; exact h1
  refine pr_aload_n 12 dX8_settle_11 rfl rfl rfl ?_
  refine pr_getR0 15 dX8_settle_12 fX8_35 rfl ?_
  refine pr_aload_n 16 dX8_settle_15 rfl rfl rfl ?_
  refine pr_getP d 19 dX8_settle_16 fX8_52 p2 rfl ?_
  refine pr_aload_n 20 dX8_settle_19 rfl rfl rfl ?_
  refine pr_getR0 23 dX8_settle_20 fX8_28 rfl ?_
  refine pr_inv0R2 26 dX8_settle_23 vX8_263 mX2_settle (sp_X2_settle (L := 0) (hd.fr f2' (sSe_desk _)) (hr.fr f2' sSe_rout) hW w2 (WL0 hW)) ⟨Nat.le_of_ble_eq_true rfl, Nat.le_of_ble_eq_true rfl⟩ (Nat.le_of_ble_eq_true rfl) rfl (fun mem2 h3 => ?_)
  refine pr_return dX8_settle_26 rfl ?_
  exact ⟨rfl, f2'.tr h3.1, h3.2.2⟩
def cqP (m0 : pm_M) (v : Int32) : Option pm_v → pm_M → Prop := fun r mem => r = some (pI v) ∧ pm_fr (sSe 1) m0 mem
theorem cqP.rf {v : Int32} : cqP mem0 v (some (pI v)) mem0 := ⟨rfl, pm_fr.rf⟩
theorem ldW.cg {L M : Nat} {w w' lk lk' : Nat → Nat} (h : ldW mem L w lk M) (hw : ∀ l, l < M → w l = w' l ∧ lk l = lk' l) : ldW mem L w' lk' M := ⟨h.1, fun l hl => by rw [← (hw l hl).1, ← (hw l hl).2]; exact h.2 l hl⟩
set_option maxRecDepth 100000 in
theorem sp_X8_split (h : IC mem0 d K) (hW : WF K) (l w c : Int32) : Cl yX8_split cX8_split 5 (some .int) 4 98 [pR 10008908 0, pI l, pI w, pI c] mem0 (cqP mem0 (q_split K l w c)) := by
  have hn16 := hW.2.2.2.1
  obtain ⟨h1, hd, hr, -⟩ := h
  refine Cl.of (own := RX8) rfl rfl (Nat.le_of_ble_eq_true rfl) rfl ?_; show PR _ _ _ _ _ _ [some _, some _, some _, some _, none] _ _ _
  rcases hl : vix l (K 39) with _ | j
  · refine pr_iload_n 1 dX8_split_0 rfl rfl rfl ?_
    refine pr_aload_n 2 dX8_split_1 rfl rfl rfl ?_
    refine pr_getP d 5 dX8_split_2 fX8_52 h1 rfl ?_
    refine pr_getI 8 dX8_split_5 fX8_102 rfl ?_
    rw [hd.2.2.2.1]
    refine pr_ivsD2 11 dX8_split_8 sX8_129 mX8_isIn (sp_isInV _ (by omega)) ⟨Nat.le_of_ble_eq_true rfl, Nat.le_of_ble_eq_true rfl⟩ (Nat.le_of_ble_eq_true rfl) rfl ?_
    refine pr_if_eq 26 14 dX8_split_11 rfl rfl (fun c_11 => ?_) (fun c_11 => absurd (vb_n hl) (c_11))
    refine pr_iconst (-1) 27 dX8_split_26 (by decide) rfl ?_
    refine pr_ireturn dX8_split_27 rfl ?_
    rw [show q_split K l w c = -1 by simp [q_split, hl]]
    exact cqP.rf
  obtain ⟨rfl, hj⟩ := vix_some (by omega) hl
  have hwj := (hW.2.2.2.2.2.2.2.1 j hj).1
  have ew := (hd.2.2.2.2.2.2.2.1 j hj).1
  by_cases h16 : K 39 = 16
  · have e : q_split K (nI j) w c = -1 := by
      unfold q_split
      rw [hl]
      simp only [Option.elim_some]
      rcases vw w (K (20 + j)) with _ | v
      · rfl
      · rcases vix c 2 with _ | e
        · rfl
        · simp [h16]
    rw [e]
    refine pr_iload_n 1 dX8_split_0 rfl rfl rfl ?_
    refine pr_aload_n 2 dX8_split_1 rfl rfl rfl ?_
    refine pr_getP d 5 dX8_split_2 fX8_52 h1 rfl ?_
    refine pr_getI 8 dX8_split_5 fX8_102 rfl ?_
    rw [hd.2.2.2.1]
    refine pr_ivsD2 11 dX8_split_8 sX8_129 mX8_isIn (sp_isInV _ (by omega)) ⟨Nat.le_of_ble_eq_true rfl, Nat.le_of_ble_eq_true rfl⟩ (Nat.le_of_ble_eq_true rfl) rfl ?_
    refine pr_if_eq 26 14 dX8_split_11 rfl rfl (fun c_11 => absurd (c_11) (vb_s hl)) (fun c_11 => ?_)
    refine pr_aload_n 15 dX8_split_14 rfl rfl rfl ?_
    refine pr_getP d 18 dX8_split_15 fX8_52 h1 rfl ?_
    refine pr_getI 21 dX8_split_18 fX8_102 rfl ?_
    rw [hd.2.2.2.1]
    refine pr_bipush (16) 23 dX8_split_21 (by decide) rfl ?_
    refine pr_icmp_lt 28 26 dX8_split_23 rfl rfl (fun c_23 => absurd (c_23) (fun z => by rw [h16] at z; exact absurd z (by decide))) (fun c_23 => ?_)
    refine pr_iconst (-1) 27 dX8_split_26 (by decide) rfl ?_
    refine pr_ireturn dX8_split_27 rfl ?_
    exact cqP.rf
  rcases hw : vw w (K (20 + j)) with _ | v
  · rw [show q_split K (nI j) w c = -1 by simp [q_split, hl, hw]]
    refine pr_iload_n 1 dX8_split_0 rfl rfl rfl ?_
    refine pr_aload_n 2 dX8_split_1 rfl rfl rfl ?_
    refine pr_getP d 5 dX8_split_2 fX8_52 h1 rfl ?_
    refine pr_getI 8 dX8_split_5 fX8_102 rfl ?_
    rw [hd.2.2.2.1]
    refine pr_ivsD2 11 dX8_split_8 sX8_129 mX8_isIn (sp_isInV _ (by omega)) ⟨Nat.le_of_ble_eq_true rfl, Nat.le_of_ble_eq_true rfl⟩ (Nat.le_of_ble_eq_true rfl) rfl ?_
    refine pr_if_eq 26 14 dX8_split_11 rfl rfl (fun c_11 => absurd (c_11) (vb_s hl)) (fun c_11 => ?_)
    refine pr_aload_n 15 dX8_split_14 rfl rfl rfl ?_
    refine pr_getP d 18 dX8_split_15 fX8_52 h1 rfl ?_
    refine pr_getI 21 dX8_split_18 fX8_102 rfl ?_
    rw [hd.2.2.2.1]
    refine pr_bipush (16) 23 dX8_split_21 (by decide) rfl ?_
    refine pr_icmp_lt 28 26 dX8_split_23 rfl rfl (fun c_23 => ?_) (fun c_23 => absurd (nI_lt (b := 16) (by omega) (by omega)) (c_23))
    refine pr_iload_n 29 dX8_split_28 rfl rfl rfl ?_
    refine pr_iconst (1) 30 dX8_split_29 (by decide) rfl ?_
    refine pr_icmp_lt 55 33 dX8_split_30 rfl rfl (fun c_30 => ?_) (fun c_30 => ?_)
    · refine pr_iconst (-1) 56 dX8_split_55 (by decide) rfl ?_
      refine pr_ireturn dX8_split_56 rfl ?_
      exact cqP.rf
    · refine pr_iload_n 34 dX8_split_33 rfl rfl rfl ?_
      refine pr_aload_n 35 dX8_split_34 rfl rfl rfl ?_
      refine pr_getP d 38 dX8_split_35 fX8_52 h1 rfl ?_
      refine pr_getR0 41 dX8_split_38 fX8_170 rfl ?_
      refine pr_iload_n 42 dX8_split_41 rfl rfl rfl ?_
      refine pr_iaload j 43 dX8_split_42 rfl rfl rfl (by omega) rfl ?_
      rw [ew]
      refine pr_icmp_ge 55 46 dX8_split_43 rfl rfl (fun c_43 => ?_) (fun c_43 => ?_)
      · refine pr_iconst (-1) 56 dX8_split_55 (by decide) rfl ?_
        refine pr_ireturn dX8_split_56 rfl ?_
        exact cqP.rf
      · exact absurd c_43 (fun z => vw_noneC (by omega) hw c_30 z)
  obtain ⟨rfl, hv1, hv2⟩ := vw_some (by omega) hw
  rcases hc : vix c 2 with _ | e
  · rw [show q_split K (nI j) (nI v) c = -1 by simp [q_split, hl, hw, hc]]
    refine pr_iload_n 1 dX8_split_0 rfl rfl rfl ?_
    refine pr_aload_n 2 dX8_split_1 rfl rfl rfl ?_
    refine pr_getP d 5 dX8_split_2 fX8_52 h1 rfl ?_
    refine pr_getI 8 dX8_split_5 fX8_102 rfl ?_
    rw [hd.2.2.2.1]
    refine pr_ivsD2 11 dX8_split_8 sX8_129 mX8_isIn (sp_isInV _ (by omega)) ⟨Nat.le_of_ble_eq_true rfl, Nat.le_of_ble_eq_true rfl⟩ (Nat.le_of_ble_eq_true rfl) rfl ?_
    refine pr_if_eq 26 14 dX8_split_11 rfl rfl (fun c_11 => absurd (c_11) (vb_s hl)) (fun c_11 => ?_)
    refine pr_aload_n 15 dX8_split_14 rfl rfl rfl ?_
    refine pr_getP d 18 dX8_split_15 fX8_52 h1 rfl ?_
    refine pr_getI 21 dX8_split_18 fX8_102 rfl ?_
    rw [hd.2.2.2.1]
    refine pr_bipush (16) 23 dX8_split_21 (by decide) rfl ?_
    refine pr_icmp_lt 28 26 dX8_split_23 rfl rfl (fun c_23 => ?_) (fun c_23 => absurd (nI_lt (b := 16) (by omega) (by omega)) (c_23))
    refine pr_iload_n 29 dX8_split_28 rfl rfl rfl ?_
    refine pr_iconst (1) 30 dX8_split_29 (by decide) rfl ?_
    refine pr_icmp_lt 55 33 dX8_split_30 rfl rfl (fun c_30 => absurd (c_30) (nI_nlt (b := 1) (by omega) (by omega))) (fun c_30 => ?_)
    refine pr_iload_n 34 dX8_split_33 rfl rfl rfl ?_
    refine pr_aload_n 35 dX8_split_34 rfl rfl rfl ?_
    refine pr_getP d 38 dX8_split_35 fX8_52 h1 rfl ?_
    refine pr_getR0 41 dX8_split_38 fX8_170 rfl ?_
    refine pr_iload_n 42 dX8_split_41 rfl rfl rfl ?_
    refine pr_iaload j 43 dX8_split_42 rfl rfl rfl (by omega) rfl ?_
    rw [ew]
    refine pr_icmp_ge 55 46 dX8_split_43 rfl rfl (fun c_43 => absurd (c_43) (nI_ge (by omega) (by omega))) (fun c_43 => ?_)
    refine pr_iload_n 47 dX8_split_46 rfl rfl rfl ?_
    refine pr_if_lt 55 50 dX8_split_47 rfl rfl (fun c_47 => ?_) (fun c_47 => ?_)
    · refine pr_iconst (-1) 56 dX8_split_55 (by decide) rfl ?_
      refine pr_ireturn dX8_split_56 rfl ?_
      exact cqP.rf
    · refine pr_iload_n 51 dX8_split_50 rfl rfl rfl ?_
      refine pr_iconst (1) 52 dX8_split_51 (by decide) rfl ?_
      refine pr_icmp_le 57 55 dX8_split_52 rfl rfl (fun c_52 => ?_) (fun c_52 => ?_)
      · exact absurd hc (vix_ne (m := 1) (by omega) c_47 c_52)
      · refine pr_iconst (-1) 56 dX8_split_55 (by decide) rfl ?_
        refine pr_ireturn dX8_split_56 rfl ?_
        exact cqP.rf
  have hq : q_split K (nI j) (nI v) c = nI (if e = 1 then shr K (spW K j v) (spL K j) (K 39 + 1) j else shr K (spW K j v) (spL K j) (K 39 + 1) j + shr K (spW K j v) (spL K j) (K 39 + 1) (K 39)) := by
    rw [q_split, hl, Option.elim_some, hw, Option.elim_some, hc, Option.elim_some, if_neg h16]
  rw [hq]
  obtain ⟨rfl, he⟩ := vix_some (by omega) hc
  refine pr_iload_n 1 dX8_split_0 rfl rfl rfl ?_
  refine pr_aload_n 2 dX8_split_1 rfl rfl rfl ?_
  refine pr_getP d 5 dX8_split_2 fX8_52 h1 rfl ?_
  refine pr_getI 8 dX8_split_5 fX8_102 rfl ?_
  rw [hd.2.2.2.1]
  refine pr_ivsD2 11 dX8_split_8 sX8_129 mX8_isIn (sp_isInV _ (by omega)) ⟨Nat.le_of_ble_eq_true rfl, Nat.le_of_ble_eq_true rfl⟩ (Nat.le_of_ble_eq_true rfl) rfl ?_
  refine pr_if_eq 26 14 dX8_split_11 rfl rfl (fun c_11 => absurd (c_11) (vb_s hl)) (fun c_11 => ?_)
  refine pr_aload_n 15 dX8_split_14 rfl rfl rfl ?_
  refine pr_getP d 18 dX8_split_15 fX8_52 h1 rfl ?_
  refine pr_getI 21 dX8_split_18 fX8_102 rfl ?_
  rw [hd.2.2.2.1]
  refine pr_bipush (16) 23 dX8_split_21 (by decide) rfl ?_
  refine pr_icmp_lt 28 26 dX8_split_23 rfl rfl (fun c_23 => ?_) (fun c_23 => absurd (nI_lt (b := 16) (by omega) (by omega)) (c_23))
  refine pr_iload_n 29 dX8_split_28 rfl rfl rfl ?_
  refine pr_iconst (1) 30 dX8_split_29 (by decide) rfl ?_
  refine pr_icmp_lt 55 33 dX8_split_30 rfl rfl (fun c_30 => absurd (c_30) (nI_nlt (b := 1) (by omega) (by omega))) (fun c_30 => ?_)
  refine pr_iload_n 34 dX8_split_33 rfl rfl rfl ?_
  refine pr_aload_n 35 dX8_split_34 rfl rfl rfl ?_
  refine pr_getP d 38 dX8_split_35 fX8_52 h1 rfl ?_
  refine pr_getR0 41 dX8_split_38 fX8_170 rfl ?_
  refine pr_iload_n 42 dX8_split_41 rfl rfl rfl ?_
  refine pr_iaload j 43 dX8_split_42 rfl rfl rfl (by omega) rfl ?_
  rw [ew]
  refine pr_icmp_ge 55 46 dX8_split_43 rfl rfl (fun c_43 => absurd (c_43) (nI_ge (by omega) (by omega))) (fun c_43 => ?_)
  refine pr_iload_n 47 dX8_split_46 rfl rfl rfl ?_
  refine pr_if_lt 55 50 dX8_split_47 rfl rfl (fun c_47 => absurd (c_47) (nI_pos (by omega))) (fun c_47 => ?_)
  refine pr_iload_n 51 dX8_split_50 rfl rfl rfl ?_
  refine pr_iconst (1) 52 dX8_split_51 (by decide) rfl ?_
  refine pr_icmp_le 57 55 dX8_split_52 rfl rfl (fun c_52 => ?_) (fun c_52 => absurd ((nI_leI (b := 1) (by omega) (by omega)).mpr (by omega)) (c_52))
  refine pr_aload_n 58 dX8_split_57 rfl rfl rfl ?_
  refine pr_getP d 61 dX8_split_58 fX8_52 h1 rfl ?_
  refine pr_getI 64 dX8_split_61 fX8_102 rfl ?_
  rw [hd.2.2.2.1]
  refine pr_istore 66 dX8_split_64 (pm_st_4 rfl rfl) rfl ?_
  refine pr_aload_n 67 dX8_split_66 rfl rfl rfl ?_
  refine pr_getRo 1 70 dX8_split_67 fX8_39 rfl rfl ?_
  refine pr_aload_n 71 dX8_split_70 rfl rfl rfl ?_
  refine pr_getP d 74 dX8_split_71 fX8_52 h1 rfl ?_
  refine pr_inv0R1 77 dX8_split_74 vX8_256 mX2_takeLoads (sp_X2_takeLoads (L := 1) hd hW) ⟨Nat.le_of_ble_eq_true rfl, Nat.le_of_ble_eq_true rfl⟩ (Nat.le_of_ble_eq_true rfl) rfl (fun mem1 h2 => ?_)
  obtain ⟨f2, w2⟩ := h2
  have f2' := f2.mono (sTk_Se 1)
  refine pr_aload_n 78 dX8_split_77 rfl rfl rfl ?_
  refine pr_getRo 1 81 dX8_split_78 fX8_39 rfl rfl ?_
  refine pr_iload_n 82 dX8_split_81 rfl rfl rfl ?_
  refine pr_iload_n 83 dX8_split_82 rfl rfl rfl ?_
  refine pr_inv0R2 86 dX8_split_83 vX8_259 mX2_splitLoad (sp_X2_splitLoad (L := 1) (l := j) (v := v) w2 (by omega) hj (by omega)) ⟨Nat.le_of_ble_eq_true rfl, Nat.le_of_ble_eq_true rfl⟩ (Nat.le_of_ble_eq_true rfl) rfl (fun mem2 h3 => ?_)
  obtain ⟨f3, w3⟩ := h3
  have f3' := f2'.tr (f3.mono (sTk_Se 1))
  have w3' : ldW mem2 1 (spW K j v) (spL K j) (K 39 + 1) := w3
  have p3 : mem2.2.2 10008908 0 6 = some d := by rw [(f3' _ _ (by simp [sSe])).2.2]; exact h1
  refine pr_aload_n 87 dX8_split_86 rfl rfl rfl ?_
  refine pr_getRo 1 90 dX8_split_87 fX8_39 rfl rfl ?_
  refine pr_aload_n 91 dX8_split_90 rfl rfl rfl ?_
  refine pr_getP d 94 dX8_split_91 fX8_52 p3 rfl ?_
  refine pr_aload_n 95 dX8_split_94 rfl rfl rfl ?_
  refine pr_getR0 98 dX8_split_95 fX8_28 rfl ?_
  refine pr_inv0R2 101 dX8_split_98 vX8_263 mX2_settle (sp_X2_settle (L := 1) (hd.fr f3' (sSe_desk _)) (hr.fr f3' sSe_rout) hW w3' (spWL hW hj (by omega) h16)) ⟨Nat.le_of_ble_eq_true rfl, Nat.le_of_ble_eq_true rfl⟩ (Nat.le_of_ble_eq_true rfl) rfl (fun mem4 h4 => ?_)
  obtain ⟨f4, -, a4⟩ := h4
  have s1 := (a4.2.2.2.2.2 j (by omega)).2
  have s2 := (a4.2.2.2.2.2 (K 39) (by omega)).2
  have f5 := f3'.tr f4
  refine pr_iload_n 102 dX8_split_101 rfl rfl rfl ?_
  refine pr_iconst (1) 103 dX8_split_102 (by decide) rfl ?_
  refine pr_icmp_ne 118 106 dX8_split_103 rfl rfl (fun c_103 => ?_) (fun c_103 => ?_)
  · have e0 : ¬ e = 1 := fun z => c_103 (by rw [z]; rfl)
    rw [if_neg e0]
    refine pr_aload_n 119 dX8_split_118 rfl rfl rfl ?_
    refine pr_getRo 1 122 dX8_split_119 fX8_39 rfl rfl ?_
    refine pr_getR0 125 dX8_split_122 fX8_116 rfl ?_
    refine pr_iload_n 126 dX8_split_125 rfl rfl rfl ?_
    refine pr_iaload j 127 dX8_split_126 rfl rfl rfl (by omega) rfl ?_
    rw [s1]
    refine pr_aload_n 128 dX8_split_127 rfl rfl rfl ?_
    refine pr_getRo 1 131 dX8_split_128 fX8_39 rfl rfl ?_
    refine pr_getR0 134 dX8_split_131 fX8_116 rfl ?_
    refine pr_iload 136 dX8_split_134 rfl rfl ?_
    refine pr_iaload (K 39) 137 dX8_split_136 rfl rfl rfl (by omega) rfl ?_
    rw [s2]
    refine pr_iadd 138 dX8_split_137 rfl ?_
    rw [nI_add]
    refine pr_ireturn dX8_split_138 rfl ?_
    exact ⟨rfl, f5⟩
  · have e0 : e = 1 := (nI_eq (b := 1) (by omega) (by omega)).mp c_103
    rw [if_pos e0]
    refine pr_aload_n 107 dX8_split_106 rfl rfl rfl ?_
    refine pr_getRo 1 110 dX8_split_107 fX8_39 rfl rfl ?_
    refine pr_getR0 113 dX8_split_110 fX8_116 rfl ?_
    refine pr_iload_n 114 dX8_split_113 rfl rfl rfl ?_
    refine pr_iaload j 115 dX8_split_114 rfl rfl rfl (by omega) rfl ?_
    rw [s1]
    refine pr_goto 138 dX8_split_115 rfl ?_
    refine pr_ireturn dX8_split_138 rfl ?_
    exact ⟨rfl, f5⟩
set_option maxRecDepth 100000 in
theorem sp_X8_without (h : IC mem0 d K) (hW : WF K) (l o : Int32) : Cl yX8_without cX8_without 3 (some .int) 4 98 [pR 10008908 0, pI l, pI o] mem0 (cqP mem0 (q_without K l o)) := by
  have hn16 := hW.2.2.2.1
  obtain ⟨h1, hd, hr, -⟩ := h
  refine Cl.of (own := RX8) rfl rfl (Nat.le_of_ble_eq_true rfl) rfl ?_; show PR _ _ _ _ _ _ [some _, some _, some _] _ _ _
  rcases hl : vix l (K 39) with _ | j
  · rw [show q_without K l o = -1 by simp [q_without, hl]]
    refine pr_iload_n 1 dX8_without_0 rfl rfl rfl ?_
    refine pr_aload_n 2 dX8_without_1 rfl rfl rfl ?_
    refine pr_getP d 5 dX8_without_2 fX8_52 h1 rfl ?_
    refine pr_getI 8 dX8_without_5 fX8_102 rfl ?_
    rw [hd.2.2.2.1]
    refine pr_ivsD2 11 dX8_without_8 sX8_129 mX8_isIn (sp_isInV _ (by omega)) ⟨Nat.le_of_ble_eq_true rfl, Nat.le_of_ble_eq_true rfl⟩ (Nat.le_of_ble_eq_true rfl) rfl ?_
    refine pr_if_eq 33 14 dX8_without_11 rfl rfl (fun c_11 => ?_) (fun c_11 => absurd (vb_n hl) (c_11))
    refine pr_iconst (-1) 34 dX8_without_33 (by decide) rfl ?_
    refine pr_ireturn dX8_without_34 rfl ?_
    exact cqP.rf
  rcases ho : vix o (K 39) with _ | i
  · rw [show q_without K l o = -1 by simp [q_without, hl, ho]]
    refine pr_iload_n 1 dX8_without_0 rfl rfl rfl ?_
    refine pr_aload_n 2 dX8_without_1 rfl rfl rfl ?_
    refine pr_getP d 5 dX8_without_2 fX8_52 h1 rfl ?_
    refine pr_getI 8 dX8_without_5 fX8_102 rfl ?_
    rw [hd.2.2.2.1]
    refine pr_ivsD2 11 dX8_without_8 sX8_129 mX8_isIn (sp_isInV _ (by omega)) ⟨Nat.le_of_ble_eq_true rfl, Nat.le_of_ble_eq_true rfl⟩ (Nat.le_of_ble_eq_true rfl) rfl ?_
    refine pr_if_eq 33 14 dX8_without_11 rfl rfl (fun c_11 => absurd (c_11) (vb_s hl)) (fun c_11 => ?_)
    refine pr_iload_n 15 dX8_without_14 rfl rfl rfl ?_
    refine pr_aload_n 16 dX8_without_15 rfl rfl rfl ?_
    refine pr_getP d 19 dX8_without_16 fX8_52 h1 rfl ?_
    refine pr_getI 22 dX8_without_19 fX8_102 rfl ?_
    rw [hd.2.2.2.1]
    refine pr_ivsD2 25 dX8_without_22 sX8_129 mX8_isIn (sp_isInV _ (by omega)) ⟨Nat.le_of_ble_eq_true rfl, Nat.le_of_ble_eq_true rfl⟩ (Nat.le_of_ble_eq_true rfl) rfl ?_
    refine pr_if_eq 33 28 dX8_without_25 rfl rfl (fun c_25 => ?_) (fun c_25 => absurd (vb_n ho) (c_25))
    refine pr_iconst (-1) 34 dX8_without_33 (by decide) rfl ?_
    refine pr_ireturn dX8_without_34 rfl ?_
    exact cqP.rf
  obtain ⟨rfl, hj⟩ := vix_some (by omega) hl
  obtain ⟨rfl, hi⟩ := vix_some (by omega) ho
  by_cases e : j = i
  · rw [show q_without K (nI j) (nI i) = -1 by simp [q_without, hl, ho, e]]
    refine pr_iload_n 1 dX8_without_0 rfl rfl rfl ?_
    refine pr_aload_n 2 dX8_without_1 rfl rfl rfl ?_
    refine pr_getP d 5 dX8_without_2 fX8_52 h1 rfl ?_
    refine pr_getI 8 dX8_without_5 fX8_102 rfl ?_
    rw [hd.2.2.2.1]
    refine pr_ivsD2 11 dX8_without_8 sX8_129 mX8_isIn (sp_isInV _ (by omega)) ⟨Nat.le_of_ble_eq_true rfl, Nat.le_of_ble_eq_true rfl⟩ (Nat.le_of_ble_eq_true rfl) rfl ?_
    refine pr_if_eq 33 14 dX8_without_11 rfl rfl (fun c_11 => absurd (c_11) (vb_s hl)) (fun c_11 => ?_)
    refine pr_iload_n 15 dX8_without_14 rfl rfl rfl ?_
    refine pr_aload_n 16 dX8_without_15 rfl rfl rfl ?_
    refine pr_getP d 19 dX8_without_16 fX8_52 h1 rfl ?_
    refine pr_getI 22 dX8_without_19 fX8_102 rfl ?_
    rw [hd.2.2.2.1]
    refine pr_ivsD2 25 dX8_without_22 sX8_129 mX8_isIn (sp_isInV _ (by omega)) ⟨Nat.le_of_ble_eq_true rfl, Nat.le_of_ble_eq_true rfl⟩ (Nat.le_of_ble_eq_true rfl) rfl ?_
    refine pr_if_eq 33 28 dX8_without_25 rfl rfl (fun c_25 => absurd (c_25) (vb_s ho)) (fun c_25 => ?_)
    refine pr_iload_n 29 dX8_without_28 rfl rfl rfl ?_
    refine pr_iload_n 30 dX8_without_29 rfl rfl rfl ?_
    refine pr_icmp_ne 35 33 dX8_without_30 rfl rfl (fun c_30 => absurd (congrArg nI e) (c_30)) (fun c_30 => ?_)
    refine pr_iconst (-1) 34 dX8_without_33 (by decide) rfl ?_
    refine pr_ireturn dX8_without_34 rfl ?_
    exact cqP.rf
  rw [show q_without K (nI j) (nI i) = nI (shr K (woW K j) ai (K 39) i) by simp [q_without, hl, ho, e]]
  refine pr_iload_n 1 dX8_without_0 rfl rfl rfl ?_
  refine pr_aload_n 2 dX8_without_1 rfl rfl rfl ?_
  refine pr_getP d 5 dX8_without_2 fX8_52 h1 rfl ?_
  refine pr_getI 8 dX8_without_5 fX8_102 rfl ?_
  rw [hd.2.2.2.1]
  refine pr_ivsD2 11 dX8_without_8 sX8_129 mX8_isIn (sp_isInV _ (by omega)) ⟨Nat.le_of_ble_eq_true rfl, Nat.le_of_ble_eq_true rfl⟩ (Nat.le_of_ble_eq_true rfl) rfl ?_
  refine pr_if_eq 33 14 dX8_without_11 rfl rfl (fun c_11 => absurd (c_11) (vb_s hl)) (fun c_11 => ?_)
  refine pr_iload_n 15 dX8_without_14 rfl rfl rfl ?_
  refine pr_aload_n 16 dX8_without_15 rfl rfl rfl ?_
  refine pr_getP d 19 dX8_without_16 fX8_52 h1 rfl ?_
  refine pr_getI 22 dX8_without_19 fX8_102 rfl ?_
  rw [hd.2.2.2.1]
  refine pr_ivsD2 25 dX8_without_22 sX8_129 mX8_isIn (sp_isInV _ (by omega)) ⟨Nat.le_of_ble_eq_true rfl, Nat.le_of_ble_eq_true rfl⟩ (Nat.le_of_ble_eq_true rfl) rfl ?_
  refine pr_if_eq 33 28 dX8_without_25 rfl rfl (fun c_25 => absurd (c_25) (vb_s ho)) (fun c_25 => ?_)
  refine pr_iload_n 29 dX8_without_28 rfl rfl rfl ?_
  refine pr_iload_n 30 dX8_without_29 rfl rfl rfl ?_
  refine pr_icmp_ne 35 33 dX8_without_30 rfl rfl (fun c_30 => ?_) (fun c_30 => absurd (c_30) (fun z => e ((nI_eq (by omega) (by omega)).mp z)))
  refine pr_aload_n 36 dX8_without_35 rfl rfl rfl ?_
  refine pr_getRo 1 39 dX8_without_36 fX8_39 rfl rfl ?_
  refine pr_aload_n 40 dX8_without_39 rfl rfl rfl ?_
  refine pr_getP d 43 dX8_without_40 fX8_52 h1 rfl ?_
  refine pr_inv0R1 46 dX8_without_43 vX8_256 mX2_takeLoads (sp_X2_takeLoads (L := 1) hd hW) ⟨Nat.le_of_ble_eq_true rfl, Nat.le_of_ble_eq_true rfl⟩ (Nat.le_of_ble_eq_true rfl) rfl (fun mem1 h2 => ?_)
  obtain ⟨f2, w2⟩ := h2
  have f2' := f2.mono (sTk_Se 1)
  refine pr_aload_n 47 dX8_without_46 rfl rfl rfl ?_
  refine pr_getRo 1 50 dX8_without_47 fX8_39 rfl rfl ?_
  refine pr_getR0 53 dX8_without_50 fX8_266 rfl ?_
  refine pr_iload_n 54 dX8_without_53 rfl rfl rfl ?_
  refine pr_iconst (0) 55 dX8_without_54 (by decide) rfl ?_
  refine pr_iastore j 56 dX8_without_55 rfl rfl rfl (by omega) rfl ?_
  have f3' : pm_fr (sSe 1) mem0 (pm_uI mem1 20016084 1 j 0) := f2'.uI (Or.inl ⟨by simp, rfl⟩)
  have w3 : ldW (pm_uI mem1 20016084 1 j 0) 1 (woW K j) ai (K 39) := by
    refine ⟨by rw [pm_gIn (by simp)]; exact w2.1, fun k hk => ⟨?_, by rw [pm_gIn (by simp)]; exact (w2.2 k hk).2⟩⟩
    unfold woW
    by_cases z : k = j
    · subst z; rw [pm_gIe, if_pos rfl]; rfl
    · rw [pm_gIn (fun y => z y.2.2), if_neg z]; exact (w2.2 k hk).1
  have p3 : (pm_uI mem1 20016084 1 j 0).2.2 10008908 0 6 = some d := by rw [(f3' _ _ (by simp [sSe])).2.2]; exact h1
  refine pr_aload_n 57 dX8_without_56 rfl rfl rfl ?_
  refine pr_getRo 1 60 dX8_without_57 fX8_39 rfl rfl ?_
  refine pr_aload_n 61 dX8_without_60 rfl rfl rfl ?_
  refine pr_getP d 64 dX8_without_61 fX8_52 p3 rfl ?_
  refine pr_aload_n 65 dX8_without_64 rfl rfl rfl ?_
  refine pr_getR0 68 dX8_without_65 fX8_28 rfl ?_
  refine pr_inv0R2 71 dX8_without_68 vX8_263 mX2_settle (sp_X2_settle (L := 1) (hd.fr f3' (sSe_desk _)) (hr.fr f3' sSe_rout) hW w3 (woWL hW j)) ⟨Nat.le_of_ble_eq_true rfl, Nat.le_of_ble_eq_true rfl⟩ (Nat.le_of_ble_eq_true rfl) rfl (fun mem4 h4 => ?_)
  obtain ⟨f4, -, a4⟩ := h4
  have s1 := (a4.2.2.2.2.2 i hi).2
  refine pr_aload_n 72 dX8_without_71 rfl rfl rfl ?_
  refine pr_getRo 1 75 dX8_without_72 fX8_39 rfl rfl ?_
  refine pr_getR0 78 dX8_without_75 fX8_116 rfl ?_
  refine pr_iload_n 79 dX8_without_78 rfl rfl rfl ?_
  refine pr_iaload i 80 dX8_without_79 rfl rfl rfl (by omega) rfl ?_
  rw [s1]
  refine pr_ireturn dX8_without_80 rfl ?_
  exact ⟨rfl, f3'.tr f4⟩
end PAP
