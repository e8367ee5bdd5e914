/-! the reference: its queries, the third part -/
def q_load (K : Nat → Nat) (l w : Int32) : Option Int32 := (vix l (K 39)).elim none (fun j => (vix w 10).elim none (fun c => some (nI (
  if c = 0 then K (20 + j) else if c = 1 then K (69 + j) else if c = 2 then K (85 + j) else if c = 3 then dd K (K (69 + j)) (K (85 + j)) else if c = 4 then tbs K j (K 40) else if c = 5 then sm (fun t => ptl K (aw K) ai t j) (K 40) else if c = 6 then shr K (aw K) ai (K 39) j else if c = 7 then due K j else if c = 8 then (gla K j).length else K (853 + j)))))
def q_trip (K : Nat → Nat) (t w : Int32) : Option Int32 := (vix t (K 40)).elim none (fun j => (vix w 12).elim none (fun c => some (
  if c = 0 then nI (K (101 + 6 * j)) else if c = 1 then nI (K (4 + j)) - 1 else if c = 2 then nI (K (102 + 6 * j)) else if c = 3 then nI (K (103 + 6 * j)) else if c = 4 then nI (K (106 + 6 * j)) else if c = 5 then nI (pts K (aw K) ai (K 39) j) else if c = 6 then nI (est K j) else if c = 7 then nI (cld K j) else if c = 8 then nI (gvn K (aw K) ai (K 39) j) else if c = 9 then onI (if idl K (aw K) ai (K 39) j = true then hr K (aw K) ai (K 39) j else none) else if c = 10 then nI (K (104 + 6 * j)) else nI (K (105 + 6 * j)))))
def mqO (m0 : pm_M) (o : Option Int32) : Option pm_v → pm_M → Prop := mqP m0 (o.elim 0 id) (if o.isSome = true then 0 else 1)
theorem sm_ext {f : Nat → Nat} {a : Nat} : ∀ {n : Nat}, (∀ k, a ≤ k → k < a + n → f k = 0) → sm f (a + n) = sm f a
  | 0, _ => rfl
  | n + 1, h => by
    rw [show a + (n + 1) = (a + n) + 1 by omega, sm, h (a + n) (by omega) (by omega), Nat.add_zero]
    exact sm_ext (fun k h1 h2 => h k h1 (by omega))
section MF3
variable {mem mem0 : pm_M} {K : Nat → Nat}
theorem mqO.n {o : Option Int32} (h : o = none) {m : pm_M} {r : Option pm_v} (hq : mqP mem0 0 1 r m) : mqO mem0 o r m := by subst h; exact hq
theorem mqO.s {o : Option Int32} {v : Int32} (h : o = some v) {m : pm_M} {r : Option pm_v} (hq : mqP mem0 v 0 r m) : mqO mem0 o r m := by subst h; exact hq
theorem mqP.q2 : mqP mem0 0 1 (some (pI 0)) (pm_uI (mq1 mem0 0) 10009909 0 0 1) := ⟨rfl, fr.q1.tr fr.q1, fun k z a b c d => by rw [pm_gIn (fun y => z y.2.2)]; exact mdT.q1 k z a b c d, pm_gIe⟩
set_option maxRecDepth 100000 in
theorem sp_X9_refuse : Cd yX9_refuse cX9_refuse 1 (some .int) 0 0 [pR 10009909 0] mem (some (pI 0)) (pm_uI mem 10009909 0 0 1) := by
  refine Cl.of (own := RX9) rfl rfl (Nat.le_of_ble_eq_true rfl) rfl ?_; show PR _ _ _ _ _ _ [some _] _ _ _
  refine pr_aload_n 1 dX9_refuse_0 rfl rfl rfl ?_
  refine pr_iconst (1) 2 dX9_refuse_1 (by decide) rfl ?_
  refine pr_putI 5 dX9_refuse_2 fX9_1 rfl ?_
  refine pr_iconst (0) 6 dX9_refuse_5 (by decide) rfl ?_
  refine pr_ireturn dX9_refuse_6 rfl ?_
  exact ⟨rfl, rfl⟩
set_option maxRecDepth 100000 in
theorem sp_X9_gap (h : rowR 20869371 mem0 K) (hW : WF K) (k w : Int32) : Cl yX9_gap cX9_gap 3 (some .int) 2 46 [pR 10009909 0, pI k, pI w] mem0 (mqP mem0 (q_gap K k w) 0) := by
  have hg := gps_len hW
  have h1 : rowR 20869371 (mq1 mem0 0) K := h.q1
  refine Cl.of (own := RX9) rfl rfl (Nat.le_of_ble_eq_true rfl) rfl ?_; show PR _ _ _ _ _ _ [some _, some _, some _] _ _ _
  refine pr_aload_n 1 dX9_gap_0 rfl rfl rfl ?_
  refine pr_iconst (0) 2 dX9_gap_1 (by decide) rfl ?_
  refine pr_putI 5 dX9_gap_2 fX9_1 rfl ?_
  refine pr_aload_n 6 dX9_gap_5 rfl rfl rfl ?_
  refine pr_inv0R0 9 dX9_gap_6 vX9_243 mX9_laysGaps (sp_X9_laysGaps h1 hW) ⟨Nat.le_of_ble_eq_true rfl, Nat.le_of_ble_eq_true rfl⟩ (Nat.le_of_ble_eq_true rfl) rfl (fun mem1 h2 => ?_)
  obtain ⟨f2, d2, g2⟩ := h2
  have fin : ∀ v : Int32, mqP mem0 v 0 (some (pI v)) mem1 := fun v => mqP.of (f2.mono sMG_Q) d2.Q
  rcases hk : vix k (gps K).length with _ | i
  · refine pr_iload_n 10 dX9_gap_9 rfl rfl rfl ?_
    refine pr_iconst (0) 11 dX9_gap_10 (by decide) rfl ?_
    refine pr_aload_n 12 dX9_gap_11 rfl rfl rfl ?_
    refine pr_getI 15 dX9_gap_12 fX9_227 rfl ?_
    rw [g2.1]
    refine pr_iconst (1) 16 dX9_gap_15 (by decide) rfl ?_
    refine pr_isub 17 dX9_gap_16 rfl ?_
    refine pr_ivsD3 20 dX9_gap_17 sX9_113 mX9_isIn (sp_isInM _ (by omega)) ⟨Nat.le_of_ble_eq_true rfl, Nat.le_of_ble_eq_true rfl⟩ (Nat.le_of_ble_eq_true rfl) rfl ?_
    refine pr_if_eq 45 23 dX9_gap_20 rfl rfl (fun c_20 => ?_) (fun c_20 => absurd (vb_n hk) (c_20))
    refine pr_iconst (-1) 46 dX9_gap_45 (by decide) rfl ?_
    refine pr_ireturn dX9_gap_46 rfl ?_
    rw [show q_gap K k w = -1 by simp [q_gap, hk]]
    exact fin _
  · rcases hw : vix w 3 with _ | c
    · refine pr_iload_n 10 dX9_gap_9 rfl rfl rfl ?_
      refine pr_iconst (0) 11 dX9_gap_10 (by decide) rfl ?_
      refine pr_aload_n 12 dX9_gap_11 rfl rfl rfl ?_
      refine pr_getI 15 dX9_gap_12 fX9_227 rfl ?_
      rw [g2.1]
      refine pr_iconst (1) 16 dX9_gap_15 (by decide) rfl ?_
      refine pr_isub 17 dX9_gap_16 rfl ?_
      refine pr_ivsD3 20 dX9_gap_17 sX9_113 mX9_isIn (sp_isInM _ (by omega)) ⟨Nat.le_of_ble_eq_true rfl, Nat.le_of_ble_eq_true rfl⟩ (Nat.le_of_ble_eq_true rfl) rfl ?_
      refine pr_if_eq 45 23 dX9_gap_20 rfl rfl (fun c_20 => absurd (c_20) (vb_s hk)) (fun c_20 => ?_)
      refine pr_iload_n 24 dX9_gap_23 rfl rfl rfl ?_
      refine pr_iconst (0) 25 dX9_gap_24 (by decide) rfl ?_
      refine pr_iconst (2) 26 dX9_gap_25 (by decide) rfl ?_
      refine pr_ivsD3 29 dX9_gap_26 sX9_113 mX9_isIn (sp_isInM (n := 3) _ (by omega)) ⟨Nat.le_of_ble_eq_true rfl, Nat.le_of_ble_eq_true rfl⟩ (Nat.le_of_ble_eq_true rfl) rfl ?_
      refine pr_if_eq 45 32 dX9_gap_29 rfl rfl (fun c_29 => ?_) (fun c_29 => absurd (vb_n hw) (c_29))
      refine pr_iconst (-1) 46 dX9_gap_45 (by decide) rfl ?_
      refine pr_ireturn dX9_gap_46 rfl ?_
      rw [show q_gap K k w = -1 by simp [q_gap, hk, hw]]
      exact fin _
    · have eq : q_gap K k w = nI (gpc ((gps K)[i]?) c) := by simp [q_gap, hk, hw]
      obtain ⟨rfl, hi⟩ := vix_some (by omega) hk
      obtain ⟨rfl, hc⟩ := vix_some (by omega) hw
      rw [List.getElem?_eq_getElem hi] at eq
      obtain ⟨g3, g4, g5⟩ := g2.2 i _ (List.getElem?_eq_getElem hi)
      have ev : mem1.1 21000389 0 (3 * i + c) = q_gap K (nI i) (nI c) := by
        rw [eq]
        rcases (by omega : c = 0 ∨ c = 1 ∨ c = 2) with rfl | rfl | rfl
        · exact g3
        · exact g4
        · exact g5
      refine pr_iload_n 10 dX9_gap_9 rfl rfl rfl ?_
      refine pr_iconst (0) 11 dX9_gap_10 (by decide) rfl ?_
      refine pr_aload_n 12 dX9_gap_11 rfl rfl rfl ?_
      refine pr_getI 15 dX9_gap_12 fX9_227 rfl ?_
      rw [g2.1]
      refine pr_iconst (1) 16 dX9_gap_15 (by decide) rfl ?_
      refine pr_isub 17 dX9_gap_16 rfl ?_
      refine pr_ivsD3 20 dX9_gap_17 sX9_113 mX9_isIn (sp_isInM _ (by omega)) ⟨Nat.le_of_ble_eq_true rfl, Nat.le_of_ble_eq_true rfl⟩ (Nat.le_of_ble_eq_true rfl) rfl ?_
      refine pr_if_eq 45 23 dX9_gap_20 rfl rfl (fun c_20 => absurd (c_20) (vb_s hk)) (fun c_20 => ?_)
      refine pr_iload_n 24 dX9_gap_23 rfl rfl rfl ?_
      refine pr_iconst (0) 25 dX9_gap_24 (by decide) rfl ?_
      refine pr_iconst (2) 26 dX9_gap_25 (by decide) rfl ?_
      refine pr_ivsD3 29 dX9_gap_26 sX9_113 mX9_isIn (sp_isInM (n := 3) _ (by omega)) ⟨Nat.le_of_ble_eq_true rfl, Nat.le_of_ble_eq_true rfl⟩ (Nat.le_of_ble_eq_true rfl) rfl ?_
      refine pr_if_eq 45 32 dX9_gap_29 rfl rfl (fun c_29 => absurd (c_29) (vb_s hw)) (fun c_29 => ?_)
      refine pr_aload_n 33 dX9_gap_32 rfl rfl rfl ?_
      refine pr_getR0 36 dX9_gap_33 fX9_107 rfl ?_
      refine pr_iconst (3) 37 dX9_gap_36 (by decide) rfl ?_
      refine pr_iload_n 38 dX9_gap_37 rfl rfl rfl ?_
      refine pr_imul 39 dX9_gap_38 rfl ?_
      refine pr_iload_n 40 dX9_gap_39 rfl rfl rfl ?_
      refine pr_iadd 41 dX9_gap_40 rfl ?_
      refine pr_iaload (3 * i + c) 42 dX9_gap_41 rfl rfl (by rw [ix_3, nI_add]) (by omega) rfl ?_
      rw [ev]
      refine pr_goto 46 dX9_gap_42 rfl ?_
      refine pr_ireturn dX9_gap_46 rfl ?_
      exact fin _
theorem q_load_c {l w : Int32} {j c : Nat} (hk : vix l (K 39) = some j) (hw : vix w 10 = some c) : q_load K l w = some (nI (
  if c = 0 then K (20 + j) else if c = 1 then K (69 + j) else if c = 2 then K (85 + j) else if c = 3 then dd K (K (69 + j)) (K (85 + j)) else if c = 4 then tbs K j (K 40) else if c = 5 then sm (fun t => ptl K (aw K) ai t j) (K 40) else if c = 6 then shr K (aw K) ai (K 39) j else if c = 7 then due K j else if c = 8 then (gla K j).length else K (853 + j))) := by
  rw [q_load, hk, hw]; rfl
theorem q_trip_c {t w : Int32} {j c : Nat} (hk : vix t (K 40) = some j) (hw : vix w 12 = some c) : q_trip K t w = some (
  if c = 0 then nI (K (101 + 6 * j)) else if c = 1 then nI (K (4 + j)) - 1 else if c = 2 then nI (K (102 + 6 * j)) else if c = 3 then nI (K (103 + 6 * j)) else if c = 4 then nI (K (106 + 6 * j)) else if c = 5 then nI (pts K (aw K) ai (K 39) j) else if c = 6 then nI (est K j) else if c = 7 then nI (cld K j) else if c = 8 then nI (gvn K (aw K) ai (K 39) j) else if c = 9 then onI (if idl K (aw K) ai (K 39) j = true then hr K (aw K) ai (K 39) j else none) else if c = 10 then nI (K (104 + 6 * j)) else nI (K (105 + 6 * j))) := by
  rw [q_trip, hk, hw]; rfl
set_option maxRecDepth 100000 in
theorem sp_X9_load (h : rowR 20869371 mem0 K) (hW : WF K) (l w : Int32) : Cl yX9_load cX9_load 3 (some .int) 7 156 [pR 10009909 0, pI l, pI w] mem0 (mqO mem0 (q_load K l w)) := by
  have hn16 := hW.2.2.2.1
  have h1 : rowR 20869371 (mq1 mem0 0) K := h.q1
  refine Cl.of (own := RX9) rfl rfl (Nat.le_of_ble_eq_true rfl) rfl ?_; show PR _ _ _ _ _ _ [some _, some _, some _] _ _ _
  rcases hk : vix l (K 39) with _ | j
  · refine pr_aload_n 1 dX9_load_0 rfl rfl rfl ?_
    refine pr_iconst (0) 2 dX9_load_1 (by decide) rfl ?_
    refine pr_putI 5 dX9_load_2 fX9_1 rfl ?_
    refine pr_aload_n 6 dX9_load_5 rfl rfl rfl ?_
    refine pr_iload_n 7 dX9_load_6 rfl rfl rfl ?_
    refine pr_invD1 10 dX9_load_7 vX9_256 mX9_isLoad (sp_X9_isLoad h1 hW _) ⟨Nat.le_of_ble_eq_true rfl, Nat.le_of_ble_eq_true rfl⟩ (Nat.le_of_ble_eq_true rfl) rfl ?_
    refine pr_if_eq 23 13 dX9_load_10 rfl rfl (fun c_10 => ?_) (fun c_10 => absurd (vb_n hk) (c_10))
    refine pr_aload_n 24 dX9_load_23 rfl rfl rfl ?_
    refine pr_invD0 27 dX9_load_24 vX9_259 mX9_refuse (sp_X9_refuse) ⟨Nat.le_of_ble_eq_true rfl, Nat.le_of_ble_eq_true rfl⟩ (Nat.le_of_ble_eq_true rfl) rfl ?_
    refine pr_ireturn dX9_load_27 rfl ?_
    exact mqO.n (by simp [q_load, hk]) mqP.q2
  · rcases hw : vix w 10 with _ | c
    · refine pr_aload_n 1 dX9_load_0 rfl rfl rfl ?_
      refine pr_iconst (0) 2 dX9_load_1 (by decide) rfl ?_
      refine pr_putI 5 dX9_load_2 fX9_1 rfl ?_
      refine pr_aload_n 6 dX9_load_5 rfl rfl rfl ?_
      refine pr_iload_n 7 dX9_load_6 rfl rfl rfl ?_
      refine pr_invD1 10 dX9_load_7 vX9_256 mX9_isLoad (sp_X9_isLoad h1 hW _) ⟨Nat.le_of_ble_eq_true rfl, Nat.le_of_ble_eq_true rfl⟩ (Nat.le_of_ble_eq_true rfl) rfl ?_
      refine pr_if_eq 23 13 dX9_load_10 rfl rfl (fun c_10 => absurd (c_10) (vb_s hk)) (fun c_10 => ?_)
      refine pr_iload_n 14 dX9_load_13 rfl rfl rfl ?_
      refine pr_iconst (0) 15 dX9_load_14 (by decide) rfl ?_
      refine pr_bipush (9) 17 dX9_load_15 (by decide) rfl ?_
      refine pr_ivsD3 20 dX9_load_17 sX9_113 mX9_isIn (sp_isInM (n := 10) _ (by omega)) ⟨Nat.le_of_ble_eq_true rfl, Nat.le_of_ble_eq_true rfl⟩ (Nat.le_of_ble_eq_true rfl) rfl ?_
      refine pr_if_ne 28 23 dX9_load_20 rfl rfl (fun c_20 => absurd (vb_n hw) (c_20)) (fun c_20 => ?_)
      refine pr_aload_n 24 dX9_load_23 rfl rfl rfl ?_
      refine pr_invD0 27 dX9_load_24 vX9_259 mX9_refuse (sp_X9_refuse) ⟨Nat.le_of_ble_eq_true rfl, Nat.le_of_ble_eq_true rfl⟩ (Nat.le_of_ble_eq_true rfl) rfl ?_
      refine pr_ireturn dX9_load_27 rfl ?_
      exact mqO.n (by simp [q_load, hk, hw]) mqP.q2
    · have hq := q_load_c hk hw
      obtain ⟨rfl, hj⟩ := vix_some (by omega) hk
      obtain ⟨-, hc⟩ := vix_some (by omega) hw
      refine pr_aload_n 1 dX9_load_0 rfl rfl rfl ?_
      refine pr_iconst (0) 2 dX9_load_1 (by decide) rfl ?_
      refine pr_putI 5 dX9_load_2 fX9_1 rfl ?_
      refine pr_aload_n 6 dX9_load_5 rfl rfl rfl ?_
      refine pr_iload_n 7 dX9_load_6 rfl rfl rfl ?_
      refine pr_invD1 10 dX9_load_7 vX9_256 mX9_isLoad (sp_X9_isLoad h1 hW _) ⟨Nat.le_of_ble_eq_true rfl, Nat.le_of_ble_eq_true rfl⟩ (Nat.le_of_ble_eq_true rfl) rfl ?_
      refine pr_if_eq 23 13 dX9_load_10 rfl rfl (fun c_10 => absurd (c_10) (vb_s hk)) (fun c_10 => ?_)
      refine pr_iload_n 14 dX9_load_13 rfl rfl rfl ?_
      refine pr_iconst (0) 15 dX9_load_14 (by decide) rfl ?_
      refine pr_bipush (9) 17 dX9_load_15 (by decide) rfl ?_
      refine pr_ivsD3 20 dX9_load_17 sX9_113 mX9_isIn (sp_isInM (n := 10) _ (by omega)) ⟨Nat.le_of_ble_eq_true rfl, Nat.le_of_ble_eq_true rfl⟩ (Nat.le_of_ble_eq_true rfl) rfl ?_
      refine pr_if_ne 28 23 dX9_load_20 rfl rfl (fun c_20 => ?_) (fun c_20 => absurd (c_20) (vb_s hw))
      refine pr_aload_n 29 dX9_load_28 rfl rfl rfl ?_
      refine pr_inv0R0 32 dX9_load_29 vX9_237 mX9_account (sp_X9_account h1 hW) ⟨Nat.le_of_ble_eq_true rfl, Nat.le_of_ble_eq_true rfl⟩ (Nat.le_of_ble_eq_true rfl) rfl (fun mem2 h2 => ?_)
      obtain ⟨f2, d2, w2, a2⟩ := h2
      have r2 := h1.fr f2 (by simp [sMQ])
      refine pr_aload_n 33 dX9_load_32 rfl rfl rfl ?_
      refine pr_inv0R0 36 dX9_load_33 vX9_243 mX9_laysGaps (sp_X9_laysGaps r2 hW) ⟨Nat.le_of_ble_eq_true rfl, Nat.le_of_ble_eq_true rfl⟩ (Nat.le_of_ble_eq_true rfl) rfl (fun mem3 h3 => ?_)
      obtain ⟨f3, d3, g3⟩ := h3
      have r3 := r2.fr f3 (by simp [sMG])
      have w3 : mwR mem3 (aw K) ai (K 39) none := by
        unfold mwR
        rw [d3.1 _ (by decide), d3.1 _ (by decide), (f3 _ _ (by simp [sMG])).1, (f3 _ _ (by simp [sMG])).1]
        exact w2
      have s3 : mem3.1 20017380 0 j = nI (shr K (aw K) ai (K 39) j) := by
        rw [(f3 _ _ (by simp [sMG])).1]
        exact (a2.2.2 j hj).2
      have fin : ∀ v : Int32, q_load K (nI j) w = some v → mqO mem0 (q_load K (nI j) w) (some (pI v)) mem3 := fun v hv => mqO.s hv (mqP.of (f2.tr (f3.mono sMG_Q)) (d2.tr d3.Q))
      obtain ⟨rfl, -⟩ := vix_some (by omega) hw
      obtain ⟨b1, b2, b3⟩ := hW.2.2.2.2.2.2.2.1 j hj
      rcases (by omega : c = 0 ∨ c = 1 ∨ c = 2 ∨ c = 3 ∨ c = 4 ∨ c = 5 ∨ c = 6 ∨ c = 7 ∨ c = 8 ∨ c = 9) with rfl | rfl | rfl | rfl | rfl | rfl | rfl | rfl | rfl | rfl
      · refine pr_iload_n 37 dX9_load_36 rfl rfl rfl ?_
        refine pr_table 92 dX9_load_37 (Or.inr ⟨by decide, by decide, 55, rfl, rfl⟩) ?_
        refine pr_aload_n 93 dX9_load_92 rfl rfl rfl ?_
        refine pr_getR0 96 dX9_load_93 fX9_64 rfl ?_
        refine pr_bipush (20) 98 dX9_load_96 (by decide) rfl ?_
        refine pr_iload_n 99 dX9_load_98 rfl rfl rfl ?_
        refine pr_iadd 100 dX9_load_99 rfl ?_
        refine pr_iaload (20 + j) 101 dX9_load_100 rfl rfl (nI_add 20 j) (by omega) rfl ?_
        rw [r3.1 _ (by omega) (by omega)]
        refine pr_ireturn dX9_load_101 rfl ?_
        exact fin _ hq
      · refine pr_iload_n 37 dX9_load_36 rfl rfl rfl ?_
        refine pr_table 102 dX9_load_37 (Or.inr ⟨by decide, by decide, 65, rfl, rfl⟩) ?_
        refine pr_aload_n 103 dX9_load_102 rfl rfl rfl ?_
        refine pr_getR0 106 dX9_load_103 fX9_64 rfl ?_
        refine pr_bipush (69) 108 dX9_load_106 (by decide) rfl ?_
        refine pr_iload_n 109 dX9_load_108 rfl rfl rfl ?_
        refine pr_iadd 110 dX9_load_109 rfl ?_
        refine pr_iaload (69 + j) 111 dX9_load_110 rfl rfl (nI_add 69 j) (by omega) rfl ?_
        rw [r3.1 _ (by omega) (by omega)]
        refine pr_ireturn dX9_load_111 rfl ?_
        exact fin _ hq
      · refine pr_iload_n 37 dX9_load_36 rfl rfl rfl ?_
        refine pr_table 112 dX9_load_37 (Or.inr ⟨by decide, by decide, 75, rfl, rfl⟩) ?_
        refine pr_aload_n 113 dX9_load_112 rfl rfl rfl ?_
        refine pr_getR0 116 dX9_load_113 fX9_64 rfl ?_
        refine pr_bipush (85) 118 dX9_load_116 (by decide) rfl ?_
        refine pr_iload_n 119 dX9_load_118 rfl rfl rfl ?_
        refine pr_iadd 120 dX9_load_119 rfl ?_
        refine pr_iaload (85 + j) 121 dX9_load_120 rfl rfl (nI_add 85 j) (by omega) rfl ?_
        rw [r3.1 _ (by omega) (by omega)]
        refine pr_ireturn dX9_load_121 rfl ?_
        exact fin _ hq
      · refine pr_iload_n 37 dX9_load_36 rfl rfl rfl ?_
        refine pr_table 122 dX9_load_37 (Or.inr ⟨by decide, by decide, 85, rfl, rfl⟩) ?_
        refine pr_aload_n 123 dX9_load_122 rfl rfl rfl ?_
        refine pr_getR0 126 dX9_load_123 fX9_64 rfl ?_
        refine pr_aload_n 127 dX9_load_126 rfl rfl rfl ?_
        refine pr_getR0 130 dX9_load_127 fX9_64 rfl ?_
        refine pr_bipush (69) 132 dX9_load_130 (by decide) rfl ?_
        refine pr_iload_n 133 dX9_load_132 rfl rfl rfl ?_
        refine pr_iadd 134 dX9_load_133 rfl ?_
        refine pr_iaload (69 + j) 135 dX9_load_134 rfl rfl (nI_add 69 j) (by omega) rfl ?_
        rw [r3.1 _ (by omega) (by omega)]
        refine pr_aload_n 136 dX9_load_135 rfl rfl rfl ?_
        refine pr_getR0 139 dX9_load_136 fX9_64 rfl ?_
        refine pr_bipush (85) 141 dX9_load_139 (by decide) rfl ?_
        refine pr_iload_n 142 dX9_load_141 rfl rfl rfl ?_
        refine pr_iadd 143 dX9_load_142 rfl ?_
        refine pr_iaload (85 + j) 144 dX9_load_143 rfl rfl (nI_add 85 j) (by omega) rfl ?_
        rw [r3.1 _ (by omega) (by omega)]
        refine pr_ivsD3 147 dX9_load_144 sX9_128 mX9_directOf (sp_X9_direct_now r3 hW b2 b3) ⟨Nat.le_of_ble_eq_true rfl, Nat.le_of_ble_eq_true rfl⟩ (Nat.le_of_ble_eq_true rfl) rfl ?_
        refine pr_ireturn dX9_load_147 rfl ?_
        exact fin _ hq
      · refine pr_iload_n 37 dX9_load_36 rfl rfl rfl ?_
        refine pr_table 172 dX9_load_37 (Or.inr ⟨by decide, by decide, 135, rfl, rfl⟩) ?_
        refine pr_aload_n 173 dX9_load_172 rfl rfl rfl ?_
        refine pr_iload_n 174 dX9_load_173 rfl rfl rfl ?_
        refine pr_iload_n 175 dX9_load_174 rfl rfl rfl ?_
        refine pr_invD2 178 dX9_load_175 vX9_265 mX9_countsOf (sp_countsT r3 hW hj) ⟨Nat.le_of_ble_eq_true rfl, Nat.le_of_ble_eq_true rfl⟩ (Nat.le_of_ble_eq_true rfl) rfl ?_
        refine pr_ireturn dX9_load_178 rfl ?_
        exact fin _ hq
      · refine pr_iload_n 37 dX9_load_36 rfl rfl rfl ?_
        refine pr_table 172 dX9_load_37 (Or.inr ⟨by decide, by decide, 135, rfl, rfl⟩) ?_
        refine pr_aload_n 173 dX9_load_172 rfl rfl rfl ?_
        refine pr_iload_n 174 dX9_load_173 rfl rfl rfl ?_
        refine pr_iload_n 175 dX9_load_174 rfl rfl rfl ?_
        refine pr_invD2 178 dX9_load_175 vX9_265 mX9_countsOf (sp_countsP r3 hW (WL0 hW) w3 (fun l z => by cases z) hj rfl) ⟨Nat.le_of_ble_eq_true rfl, Nat.le_of_ble_eq_true rfl⟩ (Nat.le_of_ble_eq_true rfl) rfl ?_
        refine pr_ireturn dX9_load_178 rfl ?_
        exact fin _ hq
      · refine pr_iload_n 37 dX9_load_36 rfl rfl rfl ?_
        refine pr_table 148 dX9_load_37 (Or.inr ⟨by decide, by decide, 111, rfl, rfl⟩) ?_
        refine pr_aload_n 149 dX9_load_148 rfl rfl rfl ?_
        refine pr_getR0 152 dX9_load_149 fX9_88 rfl ?_
        refine pr_iload_n 153 dX9_load_152 rfl rfl rfl ?_
        refine pr_iaload j 154 dX9_load_153 rfl rfl rfl (by omega) rfl ?_
        rw [s3]
        refine pr_ireturn dX9_load_154 rfl ?_
        exact fin _ hq
      · refine pr_iload_n 37 dX9_load_36 rfl rfl rfl ?_
        refine pr_table 155 dX9_load_37 (Or.inr ⟨by decide, by decide, 118, rfl, rfl⟩) ?_
        refine pr_aload_n 156 dX9_load_155 rfl rfl rfl ?_
        refine pr_iload_n 157 dX9_load_156 rfl rfl rfl ?_
        refine pr_invD1 160 dX9_load_157 vX9_262 mX9_dueOf (sp_X9_dueOf r3 hW g3 hj) ⟨Nat.le_of_ble_eq_true rfl, Nat.le_of_ble_eq_true rfl⟩ (Nat.le_of_ble_eq_true rfl) rfl ?_
        refine pr_ireturn dX9_load_160 rfl ?_
        exact fin _ hq
      · refine pr_iload_n 37 dX9_load_36 rfl rfl rfl ?_
        refine pr_table 172 dX9_load_37 (Or.inr ⟨by decide, by decide, 135, rfl, rfl⟩) ?_
        refine pr_aload_n 173 dX9_load_172 rfl rfl rfl ?_
        refine pr_iload_n 174 dX9_load_173 rfl rfl rfl ?_
        refine pr_iload_n 175 dX9_load_174 rfl rfl rfl ?_
        refine pr_invD2 178 dX9_load_175 vX9_265 mX9_countsOf (sp_countsG r3 hW g3 hj) ⟨Nat.le_of_ble_eq_true rfl, Nat.le_of_ble_eq_true rfl⟩ (Nat.le_of_ble_eq_true rfl) rfl ?_
        refine pr_ireturn dX9_load_178 rfl ?_
        exact fin _ hq
      · refine pr_iload_n 37 dX9_load_36 rfl rfl rfl ?_
        refine pr_table 161 dX9_load_37 (Or.inr ⟨by decide, by decide, 124, rfl, rfl⟩) ?_
        refine pr_aload_n 162 dX9_load_161 rfl rfl rfl ?_
        refine pr_getR0 165 dX9_load_162 fX9_64 rfl ?_
        refine pr_sipush (853) 168 dX9_load_165 (by decide) rfl ?_
        refine pr_iload_n 169 dX9_load_168 rfl rfl rfl ?_
        refine pr_iadd 170 dX9_load_169 rfl ?_
        refine pr_iaload (853 + j) 171 dX9_load_170 rfl rfl (nI_add 853 j) (by omega) rfl ?_
        rw [r3.1 _ (by omega) (by omega)]
        refine pr_ireturn dX9_load_171 rfl ?_
        exact fin _ hq
set_option maxRecDepth 100000 in
theorem sp_X9_trip (h : rowR 20869371 mem0 K) (hW : WF K) (l w : Int32) : Cl yX9_trip cX9_trip 3 (some .int) 7 156 [pR 10009909 0, pI l, pI w] mem0 (mqO mem0 (q_trip K l w)) := by
  have hn16 := hW.2.2.2.2.1
  have h1 : rowR 20869371 (mq1 mem0 0) K := h.q1
  refine Cl.of (own := RX9) rfl rfl (Nat.le_of_ble_eq_true rfl) rfl ?_; show PR _ _ _ _ _ _ [some _, some _, some _] _ _ _
  rcases hk : vix l (K 40) with _ | j
  · refine pr_aload_n 1 dX9_trip_0 rfl rfl rfl ?_
    refine pr_iconst (0) 2 dX9_trip_1 (by decide) rfl ?_
    refine pr_putI 5 dX9_trip_2 fX9_1 rfl ?_
    refine pr_aload_n 6 dX9_trip_5 rfl rfl rfl ?_
    refine pr_iload_n 7 dX9_trip_6 rfl rfl rfl ?_
    refine pr_invD1 10 dX9_trip_7 vX9_268 mX9_isTrip (sp_X9_isTrip h1 hW _) ⟨Nat.le_of_ble_eq_true rfl, Nat.le_of_ble_eq_true rfl⟩ (Nat.le_of_ble_eq_true rfl) rfl ?_
    refine pr_if_eq 23 13 dX9_trip_10 rfl rfl (fun c_10 => ?_) (fun c_10 => absurd (vb_n hk) (c_10))
    refine pr_aload_n 24 dX9_trip_23 rfl rfl rfl ?_
    refine pr_invD0 27 dX9_trip_24 vX9_259 mX9_refuse (sp_X9_refuse) ⟨Nat.le_of_ble_eq_true rfl, Nat.le_of_ble_eq_true rfl⟩ (Nat.le_of_ble_eq_true rfl) rfl ?_
    refine pr_ireturn dX9_trip_27 rfl ?_
    exact mqO.n (by simp [q_trip, hk]) mqP.q2
  · rcases hw : vix w 12 with _ | c
    · refine pr_aload_n 1 dX9_trip_0 rfl rfl rfl ?_
      refine pr_iconst (0) 2 dX9_trip_1 (by decide) rfl ?_
      refine pr_putI 5 dX9_trip_2 fX9_1 rfl ?_
      refine pr_aload_n 6 dX9_trip_5 rfl rfl rfl ?_
      refine pr_iload_n 7 dX9_trip_6 rfl rfl rfl ?_
      refine pr_invD1 10 dX9_trip_7 vX9_268 mX9_isTrip (sp_X9_isTrip h1 hW _) ⟨Nat.le_of_ble_eq_true rfl, Nat.le_of_ble_eq_true rfl⟩ (Nat.le_of_ble_eq_true rfl) rfl ?_
      refine pr_if_eq 23 13 dX9_trip_10 rfl rfl (fun c_10 => absurd (c_10) (vb_s hk)) (fun c_10 => ?_)
      refine pr_iload_n 14 dX9_trip_13 rfl rfl rfl ?_
      refine pr_iconst (0) 15 dX9_trip_14 (by decide) rfl ?_
      refine pr_bipush (11) 17 dX9_trip_15 (by decide) rfl ?_
      refine pr_ivsD3 20 dX9_trip_17 sX9_113 mX9_isIn (sp_isInM (n := 12) _ (by omega)) ⟨Nat.le_of_ble_eq_true rfl, Nat.le_of_ble_eq_true rfl⟩ (Nat.le_of_ble_eq_true rfl) rfl ?_
      refine pr_if_ne 28 23 dX9_trip_20 rfl rfl (fun c_20 => absurd (vb_n hw) (c_20)) (fun c_20 => ?_)
      refine pr_aload_n 24 dX9_trip_23 rfl rfl rfl ?_
      refine pr_invD0 27 dX9_trip_24 vX9_259 mX9_refuse (sp_X9_refuse) ⟨Nat.le_of_ble_eq_true rfl, Nat.le_of_ble_eq_true rfl⟩ (Nat.le_of_ble_eq_true rfl) rfl ?_
      refine pr_ireturn dX9_trip_27 rfl ?_
      exact mqO.n (by simp [q_trip, hk, hw]) mqP.q2
    · have hq := q_trip_c hk hw
      obtain ⟨rfl, hj⟩ := vix_some (by omega) hk
      obtain ⟨-, hc⟩ := vix_some (by omega) hw
      refine pr_aload_n 1 dX9_trip_0 rfl rfl rfl ?_
      refine pr_iconst (0) 2 dX9_trip_1 (by decide) rfl ?_
      refine pr_putI 5 dX9_trip_2 fX9_1 rfl ?_
      refine pr_aload_n 6 dX9_trip_5 rfl rfl rfl ?_
      refine pr_iload_n 7 dX9_trip_6 rfl rfl rfl ?_
      refine pr_invD1 10 dX9_trip_7 vX9_268 mX9_isTrip (sp_X9_isTrip h1 hW _) ⟨Nat.le_of_ble_eq_true rfl, Nat.le_of_ble_eq_true rfl⟩ (Nat.le_of_ble_eq_true rfl) rfl ?_
      refine pr_if_eq 23 13 dX9_trip_10 rfl rfl (fun c_10 => absurd (c_10) (vb_s hk)) (fun c_10 => ?_)
      refine pr_iload_n 14 dX9_trip_13 rfl rfl rfl ?_
      refine pr_iconst (0) 15 dX9_trip_14 (by decide) rfl ?_
      refine pr_bipush (11) 17 dX9_trip_15 (by decide) rfl ?_
      refine pr_ivsD3 20 dX9_trip_17 sX9_113 mX9_isIn (sp_isInM (n := 12) _ (by omega)) ⟨Nat.le_of_ble_eq_true rfl, Nat.le_of_ble_eq_true rfl⟩ (Nat.le_of_ble_eq_true rfl) rfl ?_
      refine pr_if_ne 28 23 dX9_trip_20 rfl rfl (fun c_20 => ?_) (fun c_20 => absurd (c_20) (vb_s hw))
      refine pr_aload_n 29 dX9_trip_28 rfl rfl rfl ?_
      refine pr_inv0R0 32 dX9_trip_29 vX9_237 mX9_account (sp_X9_account h1 hW) ⟨Nat.le_of_ble_eq_true rfl, Nat.le_of_ble_eq_true rfl⟩ (Nat.le_of_ble_eq_true rfl) rfl (fun mem2 h2 => ?_)
      obtain ⟨f2, d2, w2, a2⟩ := h2
      have r2 := h1.fr f2 (by simp [sMQ])
      have fin : ∀ v : Int32, q_trip K (nI j) w = some v → mqO mem0 (q_trip K (nI j) w) (some (pI v)) mem2 := fun v hv => mqO.s hv (mqP.of f2 d2)
      obtain ⟨rfl, -⟩ := vix_some (by omega) hw
      obtain ⟨b1, b2, b3, -⟩ := a2.1 j hj
      rcases (by omega : c = 0 ∨ c = 1 ∨ c = 2 ∨ c = 3 ∨ c = 4 ∨ c = 5 ∨ c = 6 ∨ c = 7 ∨ c = 8 ∨ c = 9 ∨ c = 10 ∨ c = 11) with rfl | rfl | rfl | rfl | rfl | rfl | rfl | rfl | rfl | rfl | rfl | rfl
      · refine pr_iload_n 33 dX9_trip_32 rfl rfl rfl ?_
        refine pr_table 92 dX9_trip_33 (Or.inr ⟨by decide, by decide, 59, rfl, rfl⟩) ?_
        refine pr_aload_n 93 dX9_trip_92 rfl rfl rfl ?_
        refine pr_iload_n 94 dX9_trip_93 rfl rfl rfl ?_
        refine pr_iconst (0) 95 dX9_trip_94 (by decide) rfl ?_
        refine pr_invD2 98 dX9_trip_95 vX9_182 mX9_its (sp_its0 r2 j (by omega)) ⟨Nat.le_of_ble_eq_true rfl, Nat.le_of_ble_eq_true rfl⟩ (Nat.le_of_ble_eq_true rfl) rfl ?_
        refine pr_ireturn dX9_trip_98 rfl ?_
        exact fin _ hq
      · refine pr_iload_n 33 dX9_trip_32 rfl rfl rfl ?_
        refine pr_table 99 dX9_trip_33 (Or.inr ⟨by decide, by decide, 66, rfl, rfl⟩) ?_
        refine pr_aload_n 100 dX9_trip_99 rfl rfl rfl ?_
        refine pr_getR0 103 dX9_trip_100 fX9_64 rfl ?_
        refine pr_iconst (4) 104 dX9_trip_103 (by decide) rfl ?_
        refine pr_iload_n 105 dX9_trip_104 rfl rfl rfl ?_
        refine pr_iadd 106 dX9_trip_105 rfl ?_
        refine pr_iaload (4 + j) 107 dX9_trip_106 rfl rfl (nI_add 4 j) (by omega) rfl ?_
        rw [r2.2 j (by omega)]
        refine pr_ireturn dX9_trip_107 rfl ?_
        exact fin _ hq
      · refine pr_iload_n 33 dX9_trip_32 rfl rfl rfl ?_
        refine pr_table 108 dX9_trip_33 (Or.inr ⟨by decide, by decide, 75, rfl, rfl⟩) ?_
        refine pr_aload_n 109 dX9_trip_108 rfl rfl rfl ?_
        refine pr_iload_n 110 dX9_trip_109 rfl rfl rfl ?_
        refine pr_iconst (1) 111 dX9_trip_110 (by decide) rfl ?_
        refine pr_invD2 114 dX9_trip_111 vX9_182 mX9_its (sp_its1 r2 j (by omega)) ⟨Nat.le_of_ble_eq_true rfl, Nat.le_of_ble_eq_true rfl⟩ (Nat.le_of_ble_eq_true rfl) rfl ?_
        refine pr_ireturn dX9_trip_114 rfl ?_
        exact fin _ hq
      · refine pr_iload_n 33 dX9_trip_32 rfl rfl rfl ?_
        refine pr_table 115 dX9_trip_33 (Or.inr ⟨by decide, by decide, 82, rfl, rfl⟩) ?_
        refine pr_aload_n 116 dX9_trip_115 rfl rfl rfl ?_
        refine pr_iload_n 117 dX9_trip_116 rfl rfl rfl ?_
        refine pr_iconst (2) 118 dX9_trip_117 (by decide) rfl ?_
        refine pr_invD2 121 dX9_trip_118 vX9_182 mX9_its (sp_its2 r2 j (by omega)) ⟨Nat.le_of_ble_eq_true rfl, Nat.le_of_ble_eq_true rfl⟩ (Nat.le_of_ble_eq_true rfl) rfl ?_
        refine pr_ireturn dX9_trip_121 rfl ?_
        exact fin _ hq
      · refine pr_iload_n 33 dX9_trip_32 rfl rfl rfl ?_
        refine pr_table 122 dX9_trip_33 (Or.inr ⟨by decide, by decide, 89, rfl, rfl⟩) ?_
        refine pr_aload_n 123 dX9_trip_122 rfl rfl rfl ?_
        refine pr_iload_n 124 dX9_trip_123 rfl rfl rfl ?_
        refine pr_iconst (5) 125 dX9_trip_124 (by decide) rfl ?_
        refine pr_invD2 128 dX9_trip_125 vX9_182 mX9_its (sp_its5 r2 j (by omega)) ⟨Nat.le_of_ble_eq_true rfl, Nat.le_of_ble_eq_true rfl⟩ (Nat.le_of_ble_eq_true rfl) rfl ?_
        refine pr_ireturn dX9_trip_128 rfl ?_
        exact fin _ hq
      · refine pr_iload_n 33 dX9_trip_32 rfl rfl rfl ?_
        refine pr_table 129 dX9_trip_33 (Or.inr ⟨by decide, by decide, 96, rfl, rfl⟩) ?_
        refine pr_aload_n 130 dX9_trip_129 rfl rfl rfl ?_
        refine pr_iload_n 131 dX9_trip_130 rfl rfl rfl ?_
        refine pr_invD1 134 dX9_trip_131 vX9_202 mX9_partsOf (sp_X9_partsOf r2 hW (WL0 hW) w2 (fun l z => by cases z) hj) ⟨Nat.le_of_ble_eq_true rfl, Nat.le_of_ble_eq_true rfl⟩ (Nat.le_of_ble_eq_true rfl) rfl ?_
        refine pr_l2i 135 dX9_trip_134 rfl ?_
        rw [lN_i]
        refine pr_ireturn dX9_trip_135 rfl ?_
        exact fin _ hq
      · refine pr_iload_n 33 dX9_trip_32 rfl rfl rfl ?_
        refine pr_table 136 dX9_trip_33 (Or.inr ⟨by decide, by decide, 103, rfl, rfl⟩) ?_
        refine pr_aload_n 137 dX9_trip_136 rfl rfl rfl ?_
        refine pr_iload_n 138 dX9_trip_137 rfl rfl rfl ?_
        refine pr_invD1 141 dX9_trip_138 vX9_192 mX9_estimateOf (sp_X9_estimateOf r2 hW hj) ⟨Nat.le_of_ble_eq_true rfl, Nat.le_of_ble_eq_true rfl⟩ (Nat.le_of_ble_eq_true rfl) rfl ?_
        refine pr_ireturn dX9_trip_141 rfl ?_
        exact fin _ hq
      · refine pr_iload_n 33 dX9_trip_32 rfl rfl rfl ?_
        refine pr_table 142 dX9_trip_33 (Or.inr ⟨by decide, by decide, 109, rfl, rfl⟩) ?_
        refine pr_aload_n 143 dX9_trip_142 rfl rfl rfl ?_
        refine pr_getR0 146 dX9_trip_143 fX9_79 rfl ?_
        refine pr_iload_n 147 dX9_trip_146 rfl rfl rfl ?_
        refine pr_iaload j 148 dX9_trip_147 rfl rfl rfl (by omega) rfl ?_
        rw [b1]
        refine pr_ireturn dX9_trip_148 rfl ?_
        exact fin _ hq
      · refine pr_iload_n 33 dX9_trip_32 rfl rfl rfl ?_
        refine pr_table 149 dX9_trip_33 (Or.inr ⟨by decide, by decide, 116, rfl, rfl⟩) ?_
        refine pr_aload_n 150 dX9_trip_149 rfl rfl rfl ?_
        refine pr_getR0 153 dX9_trip_150 fX9_82 rfl ?_
        refine pr_iload_n 154 dX9_trip_153 rfl rfl rfl ?_
        refine pr_iaload j 155 dX9_trip_154 rfl rfl rfl (by omega) rfl ?_
        rw [b3]
        refine pr_ireturn dX9_trip_155 rfl ?_
        exact fin _ hq
      · refine pr_iload_n 33 dX9_trip_32 rfl rfl rfl ?_
        refine pr_table 156 dX9_trip_33 (Or.inr ⟨by decide, by decide, 123, rfl, rfl⟩) ?_
        refine pr_aload_n 157 dX9_trip_156 rfl rfl rfl ?_
        refine pr_getR0 160 dX9_trip_157 fX9_85 rfl ?_
        refine pr_iload_n 161 dX9_trip_160 rfl rfl rfl ?_
        refine pr_iaload j 162 dX9_trip_161 rfl rfl rfl (by omega) rfl ?_
        rw [b2]
        refine pr_ireturn dX9_trip_162 rfl ?_
        exact fin _ hq
      · refine pr_iload_n 33 dX9_trip_32 rfl rfl rfl ?_
        refine pr_table 163 dX9_trip_33 (Or.inr ⟨by decide, by decide, 130, rfl, rfl⟩) ?_
        refine pr_aload_n 164 dX9_trip_163 rfl rfl rfl ?_
        refine pr_iload_n 165 dX9_trip_164 rfl rfl rfl ?_
        refine pr_iconst (3) 166 dX9_trip_165 (by decide) rfl ?_
        refine pr_invD2 169 dX9_trip_166 vX9_182 mX9_its (sp_its3 r2 j (by omega)) ⟨Nat.le_of_ble_eq_true rfl, Nat.le_of_ble_eq_true rfl⟩ (Nat.le_of_ble_eq_true rfl) rfl ?_
        refine pr_ireturn dX9_trip_169 rfl ?_
        exact fin _ hq
      · refine pr_iload_n 33 dX9_trip_32 rfl rfl rfl ?_
        refine pr_table 170 dX9_trip_33 (Or.inl ⟨by decide, rfl⟩) ?_
        refine pr_aload_n 171 dX9_trip_170 rfl rfl rfl ?_
        refine pr_iload_n 172 dX9_trip_171 rfl rfl rfl ?_
        refine pr_iconst (4) 173 dX9_trip_172 (by decide) rfl ?_
        refine pr_invD2 176 dX9_trip_173 vX9_182 mX9_its (sp_its4 r2 j (by omega)) ⟨Nat.le_of_ble_eq_true rfl, Nat.le_of_ble_eq_true rfl⟩ (Nat.le_of_ble_eq_true rfl) rfl ?_
        refine pr_ireturn dX9_trip_176 rfl ?_
        exact fin _ hq
set_option maxRecDepth 100000 in
theorem sp_X9_now (h : rowR 20869371 mem0 K) (hW : WF K) (hZ : WZ K) {sn tp : Nat} (hs : mem0.1 10009909 0 14 = nI sn) (ht : mem0.1 10009909 0 2 = nI tp) (w : Int32) : Cl yX9_now cX9_now 4 (some .int) 7 156 [pR 10009909 0, pI w] mem0 (mqP mem0 (q_now K sn tp w) 0) := by
  have hn16 := hW.2.2.2.1
  have h4 := hW.2.2.1
  have h1 : rowR 20869371 (mq1 mem0 0) K := h.q1
  have e4 : sm (fun k => K k) 4 = sm (fun k => K k) (K 38) := by
    have := sm_ext (f := fun k => K k) (a := K 38) (n := 4 - K 38) (fun k a b => hZ.1 k a (by omega))
    rwa [show K 38 + (4 - K 38) = 4 by omega] at this
  have lp : ∀ j k, k + j = 4 → PR cX9_now RX9 4 7 156 108 [some (pR 10009909 0), some (pI (nI 5)), some (pI (nI (sm (fun k => K k) k))), some (pI (nI k))] [] (mq1 mem0 0) (pm_RX cX9_now (some .int) (mqP mem0 (q_now K sn tp (nI 5)) 0)) := by
    intro j
    induction j with
    | zero =>
      intro k hj
      have e : k = 4 := by omega
      subst e
      refine pr_iload_n 109 dX9_now_108 rfl rfl rfl ?_
      refine pr_iconst (4) 110 dX9_now_109 (by decide) rfl ?_
      refine pr_icmp_ge 130 113 dX9_now_110 rfl rfl (fun c_110 => ?_) (fun c_110 => absurd (by decide) (c_110))
      refine pr_iload_n 131 dX9_now_130 rfl rfl rfl ?_
      refine pr_ireturn dX9_now_131 rfl ?_
      rw [show q_now K sn tp (nI 5) = nI (sm (fun k => K k) 4) by simp [q_now, vix_nI, e4]]
      exact mqP.q1
    | succ j ih =>
      intro k hj
      refine pr_iload_n 109 dX9_now_108 rfl rfl rfl ?_
      refine pr_iconst (4) 110 dX9_now_109 (by decide) rfl ?_
      refine pr_icmp_ge 130 113 dX9_now_110 rfl rfl (fun c_110 => absurd (c_110) (nI_ge (b := 4) (by omega) (by omega))) (fun c_110 => ?_)
      refine pr_iload_n 114 dX9_now_113 rfl rfl rfl ?_
      refine pr_aload_n 115 dX9_now_114 rfl rfl rfl ?_
      refine pr_getR0 118 dX9_now_115 fX9_64 rfl ?_
      refine pr_iconst (0) 119 dX9_now_118 (by decide) rfl ?_
      refine pr_iload_n 120 dX9_now_119 rfl rfl rfl ?_
      refine pr_iadd 121 dX9_now_120 rfl ?_
      refine pr_iaload k 122 dX9_now_121 rfl rfl (by rw [← nI_0, nI_add, Nat.zero_add]) (by omega) rfl ?_
      rw [h1.1 _ (by omega) (by omega)]
      refine pr_iadd 123 dX9_now_122 rfl ?_
      rw [nI_add]
      refine pr_istore_n 124 dX9_now_123 rfl (pm_st_2 rfl rfl) rfl ?_
      refine pr_iinc 127 dX9_now_124 rfl (by first | exact pm_inc _ | rfl) (pm_st_3 rfl rfl) rfl ?_
      refine pr_goto 108 dX9_now_127 rfl ?_
      exact ih (k + 1) (by omega)
  have lp2 : ∀ mem2, maA (mq1 mem0 0) mem2 K → ∀ j k, k + j = K 39 → PR cX9_now RX9 4 7 156 138 [some (pR 10009909 0), some (pI (nI 6)), some (pI (nI (sm (shr K (aw K) ai (K 39)) k))), some (pI (nI k))] [] mem2 (pm_RX cX9_now (some .int) (mqP mem0 (q_now K sn tp (nI 6)) 0)) := by
    intro mem2 h2 j
    obtain ⟨f2, d2, w2, a2⟩ := h2
    induction j with
    | zero =>
      intro k hj
      have e : k = K 39 := by omega
      subst e
      refine pr_iload_n 139 dX9_now_138 rfl rfl rfl ?_
      refine pr_aload_n 140 dX9_now_139 rfl rfl rfl ?_
      refine pr_getI 143 dX9_now_140 fX9_176 rfl ?_
      rw [w2.1]
      refine pr_icmp_ge 161 146 dX9_now_143 rfl rfl (fun c_143 => ?_) (fun c_143 => absurd (Int32.le_refl _) (c_143))
      refine pr_iload_n 162 dX9_now_161 rfl rfl rfl ?_
      refine pr_ireturn dX9_now_162 rfl ?_
      rw [show q_now K sn tp (nI 6) = nI (sm (shr K (aw K) ai (K 39)) (K 39)) by simp [q_now, vix_nI]]
      exact mqP.of f2 d2
    | succ j ih =>
      intro k hj
      refine pr_iload_n 139 dX9_now_138 rfl rfl rfl ?_
      refine pr_aload_n 140 dX9_now_139 rfl rfl rfl ?_
      refine pr_getI 143 dX9_now_140 fX9_176 rfl ?_
      rw [w2.1]
      refine pr_icmp_ge 161 146 dX9_now_143 rfl rfl (fun c_143 => absurd (c_143) (nI_ge (by omega) (by omega))) (fun c_143 => ?_)
      refine pr_iload_n 147 dX9_now_146 rfl rfl rfl ?_
      refine pr_aload_n 148 dX9_now_147 rfl rfl rfl ?_
      refine pr_getR0 151 dX9_now_148 fX9_88 rfl ?_
      refine pr_iload_n 152 dX9_now_151 rfl rfl rfl ?_
      refine pr_iaload k 153 dX9_now_152 rfl rfl rfl (by omega) rfl ?_
      rw [(a2.2.2 k (by omega)).2]
      refine pr_iadd 154 dX9_now_153 rfl ?_
      rw [nI_add]
      refine pr_istore_n 155 dX9_now_154 rfl (pm_st_2 rfl rfl) rfl ?_
      refine pr_iinc 158 dX9_now_155 rfl (by first | exact pm_inc _ | rfl) (pm_st_3 rfl rfl) rfl ?_
      refine pr_goto 138 dX9_now_158 rfl ?_
      exact ih (k + 1) (by omega)
  have qc : ∀ c, c < 12 → ∀ v, (if c = 0 then K 36 else if c = 1 then K 37 else if c = 2 then K 38 else if c = 3 then K 39 else if c = 4 then K 40 else if c = 5 then sm (fun k => K k) (K 38) else if c = 6 then sm (shr K (aw K) ai (K 39)) (K 39) else if c = 7 then opn K (aw K) ai (K 39) else if c = 8 then hbs K (K 37) else if c = 9 then (gps K).length else if c = 10 then sn else tp) = v → q_now K sn tp (nI c) = nI v := by
    intro c hc v hv
    rw [q_now, vix_nI hc (by omega), ← hv]
    rfl
  refine Cl.of (own := RX9) rfl rfl (Nat.le_of_ble_eq_true rfl) rfl ?_; show PR _ _ _ _ _ _ [some _, some _, none, none] _ _ _
  refine pr_aload_n 1 dX9_now_0 rfl rfl rfl ?_
  refine pr_iconst (0) 2 dX9_now_1 (by decide) rfl ?_
  refine pr_putI 5 dX9_now_2 fX9_1 rfl ?_
  refine pr_iconst (0) 6 dX9_now_5 (by decide) rfl ?_
  refine pr_istore_n 7 dX9_now_6 rfl (pm_st_2 rfl rfl) rfl ?_
  refine pr_iload_n 8 dX9_now_7 rfl rfl rfl ?_
  rcases sw_c w 11 (by omega) with h_sw | ⟨c_sw, h_sw, rfl⟩
  · refine pr_table 196 dX9_now_8 (Or.inl ⟨h_sw, rfl⟩) ?_
    refine pr_iconst (-1) 197 dX9_now_196 (by decide) rfl ?_
    refine pr_ireturn dX9_now_197 rfl ?_
    rw [show q_now K sn tp w = -1 by simp [q_now, vix_out (n := 11) h_sw]]; exact mqP.q1
  · rcases (by omega : c_sw = 0 ∨ c_sw = 1 ∨ c_sw = 2 ∨ c_sw = 3 ∨ c_sw = 4 ∨ c_sw = 5 ∨ c_sw = 6 ∨ c_sw = 7 ∨ c_sw = 8 ∨ c_sw = 9 ∨ c_sw = 10 ∨ c_sw = 11) with rfl | rfl | rfl | rfl | rfl | rfl | rfl | rfl | rfl | rfl | rfl | rfl
    · refine pr_table 72 dX9_now_8 (Or.inr ⟨by decide, by decide, 64, rfl, rfl⟩) ?_
      refine pr_aload_n 73 dX9_now_72 rfl rfl rfl ?_
      refine pr_getR0 76 dX9_now_73 fX9_64 rfl ?_
      refine pr_bipush (36) 78 dX9_now_76 (by decide) rfl ?_
      refine pr_iaload 36 79 dX9_now_78 rfl rfl rfl (by omega) rfl ?_
      rw [h1.1 _ (by omega) (by omega)]
      refine pr_ireturn dX9_now_79 rfl ?_
      rw [qc 0 (by omega) _ rfl]; exact mqP.q1
    · refine pr_table 80 dX9_now_8 (Or.inr ⟨by decide, by decide, 72, rfl, rfl⟩) ?_
      refine pr_aload_n 81 dX9_now_80 rfl rfl rfl ?_
      refine pr_getR0 84 dX9_now_81 fX9_64 rfl ?_
      refine pr_bipush (37) 86 dX9_now_84 (by decide) rfl ?_
      refine pr_iaload 37 87 dX9_now_86 rfl rfl rfl (by omega) rfl ?_
      rw [h1.1 _ (by omega) (by omega)]
      refine pr_ireturn dX9_now_87 rfl ?_
      rw [qc 1 (by omega) _ rfl]; exact mqP.q1
    · refine pr_table 88 dX9_now_8 (Or.inr ⟨by decide, by decide, 80, rfl, rfl⟩) ?_
      refine pr_aload_n 89 dX9_now_88 rfl rfl rfl ?_
      refine pr_getR0 92 dX9_now_89 fX9_64 rfl ?_
      refine pr_bipush (38) 94 dX9_now_92 (by decide) rfl ?_
      refine pr_iaload 38 95 dX9_now_94 rfl rfl rfl (by omega) rfl ?_
      rw [h1.1 _ (by omega) (by omega)]
      refine pr_ireturn dX9_now_95 rfl ?_
      rw [qc 2 (by omega) _ rfl]; exact mqP.q1
    · refine pr_table 96 dX9_now_8 (Or.inr ⟨by decide, by decide, 88, rfl, rfl⟩) ?_
      refine pr_aload_n 97 dX9_now_96 rfl rfl rfl ?_
      refine pr_invD0 100 dX9_now_97 vX9_170 mX9_loads (sp_X9_loads h1) ⟨Nat.le_of_ble_eq_true rfl, Nat.le_of_ble_eq_true rfl⟩ (Nat.le_of_ble_eq_true rfl) rfl ?_
      refine pr_ireturn dX9_now_100 rfl ?_
      rw [qc 3 (by omega) _ rfl]; exact mqP.q1
    · refine pr_table 101 dX9_now_8 (Or.inr ⟨by decide, by decide, 93, rfl, rfl⟩) ?_
      refine pr_aload_n 102 dX9_now_101 rfl rfl rfl ?_
      refine pr_invD0 105 dX9_now_102 vX9_173 mX9_trips (sp_X9_trips h1) ⟨Nat.le_of_ble_eq_true rfl, Nat.le_of_ble_eq_true rfl⟩ (Nat.le_of_ble_eq_true rfl) rfl ?_
      refine pr_ireturn dX9_now_105 rfl ?_
      rw [qc 4 (by omega) _ rfl]; exact mqP.q1
    · refine pr_table 106 dX9_now_8 (Or.inr ⟨by decide, by decide, 98, rfl, rfl⟩) ?_
      refine pr_iconst (0) 107 dX9_now_106 (by decide) rfl ?_
      refine pr_istore_n 108 dX9_now_107 rfl (pm_st_3 rfl rfl) rfl ?_
      exact lp 4 0 (by omega)
    · refine pr_table 132 dX9_now_8 (Or.inr ⟨by decide, by decide, 124, rfl, rfl⟩) ?_
      refine pr_aload_n 133 dX9_now_132 rfl rfl rfl ?_
      refine pr_inv0R0 136 dX9_now_133 vX9_237 mX9_account (sp_X9_account h1 hW) ⟨Nat.le_of_ble_eq_true rfl, Nat.le_of_ble_eq_true rfl⟩ (Nat.le_of_ble_eq_true rfl) rfl (fun mem2 h2 => ?_)
      refine pr_iconst (0) 137 dX9_now_136 (by decide) rfl ?_
      refine pr_istore_n 138 dX9_now_137 rfl (pm_st_3 rfl rfl) rfl ?_
      exact lp2 mem2 h2 (K 39) 0 (by omega)
    · refine pr_table 163 dX9_now_8 (Or.inr ⟨by decide, by decide, 155, rfl, rfl⟩) ?_
      refine pr_aload_n 164 dX9_now_163 rfl rfl rfl ?_
      refine pr_inv0R0 167 dX9_now_164 vX9_237 mX9_account (sp_X9_account h1 hW) ⟨Nat.le_of_ble_eq_true rfl, Nat.le_of_ble_eq_true rfl⟩ (Nat.le_of_ble_eq_true rfl) rfl (fun mem2 h2 => ?_)
      refine pr_aload_n 168 dX9_now_167 rfl rfl rfl ?_
      refine pr_getI 171 dX9_now_168 fX9_195 rfl ?_
      rw [h2.2.2.2.2.1]
      refine pr_ireturn dX9_now_171 rfl ?_
      rw [qc 7 (by omega) _ rfl]; exact mqP.of h2.1 h2.2.1
    · refine pr_table 172 dX9_now_8 (Or.inr ⟨by decide, by decide, 164, rfl, rfl⟩) ?_
      refine pr_aload_n 173 dX9_now_172 rfl rfl rfl ?_
      refine pr_invD0 176 dX9_now_173 vX9_240 mX9_hubs (sp_X9_hubs h1 hW) ⟨Nat.le_of_ble_eq_true rfl, Nat.le_of_ble_eq_true rfl⟩ (Nat.le_of_ble_eq_true rfl) rfl ?_
      refine pr_ireturn dX9_now_176 rfl ?_
      rw [qc 8 (by omega) _ rfl]; exact mqP.q1
    · refine pr_table 177 dX9_now_8 (Or.inr ⟨by decide, by decide, 169, rfl, rfl⟩) ?_
      refine pr_aload_n 178 dX9_now_177 rfl rfl rfl ?_
      refine pr_inv0R0 181 dX9_now_178 vX9_243 mX9_laysGaps (sp_X9_laysGaps h1 hW) ⟨Nat.le_of_ble_eq_true rfl, Nat.le_of_ble_eq_true rfl⟩ (Nat.le_of_ble_eq_true rfl) rfl (fun mem2 h2 => ?_)
      refine pr_aload_n 182 dX9_now_181 rfl rfl rfl ?_
      refine pr_getI 185 dX9_now_182 fX9_227 rfl ?_
      rw [h2.2.2.1]
      refine pr_ireturn dX9_now_185 rfl ?_
      rw [qc 9 (by omega) _ rfl]; exact mqP.of (h2.1.mono sMG_Q) h2.2.1.Q
    · refine pr_table 186 dX9_now_8 (Or.inr ⟨by decide, by decide, 178, rfl, rfl⟩) ?_
      refine pr_aload_n 187 dX9_now_186 rfl rfl rfl ?_
      refine pr_getI 190 dX9_now_187 fX9_167 rfl ?_
      rw [pm_gIn (by simp), hs]
      refine pr_ireturn dX9_now_190 rfl ?_
      rw [qc 10 (by omega) _ rfl]; exact mqP.q1
    · refine pr_table 191 dX9_now_8 (Or.inr ⟨by decide, by decide, 183, rfl, rfl⟩) ?_
      refine pr_aload_n 192 dX9_now_191 rfl rfl rfl ?_
      refine pr_getI 195 dX9_now_192 fX9_11 rfl ?_
      rw [pm_gIn (by simp), ht]
      refine pr_ireturn dX9_now_195 rfl ?_
      rw [qc 11 (by omega) _ rfl]; exact mqP.q1
end MF3
