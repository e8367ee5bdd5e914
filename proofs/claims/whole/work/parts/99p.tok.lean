/-! the class: what the reader holds; which way a token goes -/
def dkT : List Nat := [10000900, 20012006, 20012007, 20004008, 20004009, 20016010, 20016011, 20016012, 20016013, 20016014, 20016015, 20016016, 20200017, 20200018]
def sRT (d : Nat) : Nat → Nat → Prop := fun t i => ((t = 10004904 ∨ t = 20003166) ∧ i = 0) ∨ (t ∈ dkT ∧ i = d)
/-- the desk, as far as it is told -/
def rdD (mem : pm_M) (d : Nat) (K : Nat → Nat) (n sn : Nat) (sf : Nat → Nat × Nat) (se : Nat → Nat) : Prop :=
  (mem.1 10000900 d 0 = nI (K 36) ∧ mem.1 10000900 d 1 = nI (K 37) ∧ mem.1 10000900 d 2 = nI (K 38) ∧ mem.1 10000900 d 3 = nI (K 39) ∧ mem.1 10000900 d 4 = nI n ∧ mem.1 10000900 d 5 = nI sn) ∧
  (∀ p, p < K 37 → mem.1 20012006 d p = nI (K (41 + p)) ∧ mem.1 20012007 d p = nI (K (53 + p))) ∧
  (∀ k, k < K 38 → mem.1 20004008 d k = nI (K (65 + k)) ∧ mem.1 20004009 d k = nI (K k)) ∧
  (∀ l, l < K 39 → mem.1 20016010 d l = nI (K (20 + l)) ∧ mem.1 20016011 d l = nI (K (69 + l)) ∧ mem.1 20016012 d l = nI (K (85 + l))) ∧
  (∀ t, t < n → mem.1 20016013 d t = nI (K (101 + 6 * t)) ∧ mem.1 20016014 d t = nI (K (4 + t)) - 1 ∧ mem.1 20016015 d t = nI (K (104 + 6 * t)) ∧ mem.1 20016016 d t = nI (se t)) ∧
  (∀ j, j < sn → mem.1 20200017 d j = nI (sf j).1 ∧ mem.1 20200018 d j = nI (sf j).2)
def fI (w i x : Nat) : Int32 := if w = 9 ∧ i = 1 then nI x - 1 else nI x
/-- the reader's own numbers -/
def rdR (mem : pm_M) (d : Nat) (s : RS) : Prop :=
  mem.2.2 10004904 0 1 = some d ∧ mem.1 10004904 0 2 = nI s.ln ∧ mem.1 10004904 0 5 = (if s.w = 0 then -1 else nI s.w) ∧ mem.1 10004904 0 3 = 0 ∧
  (¬ s.w = 0 → mem.1 10004904 0 8 = nI (wnt s.w) ∧ mem.1 10004904 0 7 = nI s.f.length ∧ (∀ i, i < s.f.length → mem.1 20003166 0 i = fI s.w i (s.f.getD i 0)) ∧ mem.1 10004904 0 9 = (if s.sw = 0 then -1 else nI s.sw) ∧ mem.1 10004904 0 10 = nI s.on ∧ (s.w = 9 → mem.1 10004904 0 11 = nI (s.K (106 + 6 * s.K 40))))
section TOK2
variable {mem mem' : pm_M} {T p d n : Nat} {B : Nat → Nat} {s : RS} {v : Int32}
theorem rdD.eq {K : Nat → Nat} {n sn : Nat} {sf : Nat → Nat × Nat} {se : Nat → Nat} (h : rdD mem d K n sn sf se) (hm : ∀ t ∈ dkT, mem'.1 t d = mem.1 t d) : rdD mem' d K n sn sf se := by
  unfold rdD
  rw [hm 10000900 (by simp [dkT]), hm 20012006 (by simp [dkT]), hm 20012007 (by simp [dkT]), hm 20004008 (by simp [dkT]), hm 20004009 (by simp [dkT]), hm 20016010 (by simp [dkT]), hm 20016011 (by simp [dkT]), hm 20016012 (by simp [dkT]), hm 20016013 (by simp [dkT]), hm 20016014 (by simp [dkT]), hm 20016015 (by simp [dkT]), hm 20016016 (by simp [dkT]), hm 20200017 (by simp [dkT]), hm 20200018 (by simp [dkT])]
  exact h
theorem rdR.eq (h : rdR mem d s) (h1 : mem'.2.2 = mem.2.2) (h2 : mem'.1 10004904 0 = mem.1 10004904 0) (h3 : mem'.1 20003166 0 = mem.1 20003166 0) : rdR mem' d s := by
  unfold rdR
  rw [h1, h2, h3]
  exact h
theorem dk_R {k : Nat} {x : Int32} : ∀ t ∈ dkT, (pm_uI mem 10004904 0 k x).1 t d = mem.1 t d := fun t ht => by
  funext j
  rw [pm_gIn (fun z => ?_)]
  rw [z.1] at ht
  simp [dkT] at ht
theorem dk_T {k : Nat} {x : Int32} : ∀ t ∈ dkT, (pm_uI mem 20003166 0 k x).1 t d = mem.1 t d := fun t ht => by
  funext j
  rw [pm_gIn (fun z => ?_)]
  rw [z.1] at ht
  simp [dkT] at ht
set_option maxRecDepth 100000 in
theorem sp_field8 (hw : mem.1 10004904 0 5 = nI 8) (hv : v = 0 ∨ v = 1) (hc : Cd yX4_takeFieldOfLoad cX4_takeFieldOfLoad 2 (some .boolean) 3 63 [pR 10004904 0] mem (some (pI v)) mem') : Cd yX4_takeField cX4_takeField 1 (some .boolean) 4 84 [pR 10004904 0] mem (some (pI v)) mem' := by
  refine Cl.of (own := RX4) rfl rfl (Nat.le_of_ble_eq_true rfl) rfl ?_; show PR _ _ _ _ _ _ [some _] _ _ _
  refine pr_aload_n 1 dX4_takeField_0 rfl rfl rfl ?_
  refine pr_getI 4 dX4_takeField_1 fX4_43 rfl ?_
  rw [hw]
  refine pr_table 75 dX4_takeField_4 (Or.inr ⟨by decide, by decide, 71, rfl, rfl⟩) ?_
  refine pr_aload_n 76 dX4_takeField_75 rfl rfl rfl ?_
  refine pr_invD0 79 dX4_takeField_76 vX4_116 mX4_takeFieldOfLoad (hc) ⟨Nat.le_of_ble_eq_true rfl, Nat.le_of_ble_eq_true rfl⟩ (Nat.le_of_ble_eq_true rfl) rfl ?_
  refine pr_zreturn dX4_takeField_79 rfl (hv) ?_
  exact ⟨rfl, rfl⟩
set_option maxRecDepth 100000 in
theorem sp_field9 (hw : mem.1 10004904 0 5 = nI 9) (hv : v = 0 ∨ v = 1) (hc : Cd yX4_takeFieldOfTrip cX4_takeFieldOfTrip 1 (some .boolean) 3 63 [pR 10004904 0] mem (some (pI v)) mem') : Cd yX4_takeField cX4_takeField 1 (some .boolean) 4 84 [pR 10004904 0] mem (some (pI v)) mem' := by
  refine Cl.of (own := RX4) rfl rfl (Nat.le_of_ble_eq_true rfl) rfl ?_; show PR _ _ _ _ _ _ [some _] _ _ _
  refine pr_aload_n 1 dX4_takeField_0 rfl rfl rfl ?_
  refine pr_getI 4 dX4_takeField_1 fX4_43 rfl ?_
  rw [hw]
  refine pr_table 80 dX4_takeField_4 (Or.inl ⟨by decide, rfl⟩) ?_
  refine pr_aload_n 81 dX4_takeField_80 rfl rfl rfl ?_
  refine pr_invD0 84 dX4_takeField_81 vX4_119 mX4_takeFieldOfTrip (hc) ⟨Nat.le_of_ble_eq_true rfl, Nat.le_of_ble_eq_true rfl⟩ (Nat.le_of_ble_eq_true rfl) rfl ?_
  refine pr_zreturn dX4_takeField_84 rfl (hv) ?_
  exact ⟨rfl, rfl⟩
set_option maxRecDepth 100000 in
theorem sp_stepNum {w : Nat} (hw : mem.1 10004904 0 9 = nI w) (hw2 : w < 100) (hv : v = 0 ∨ v = 1) (hc : Cd yX4_takeNumberOfStep cX4_takeNumberOfStep 2 (some .boolean) 2 42 [pR 10004904 0] mem (some (pI v)) mem') : Cd yX4_takeStep cX4_takeStep 1 (some .boolean) 3 63 [pR 10004904 0] mem (some (pI v)) mem' := by
  have hn : ¬ nI w = -1 := fun z => by
    have h0 : nI w < 0 := by rw [z]; decide
    exact nI_pos (by omega) h0
  refine Cl.of (own := RX4) rfl rfl (Nat.le_of_ble_eq_true rfl) rfl ?_; show PR _ _ _ _ _ _ [some _] _ _ _
  refine pr_aload_n 1 dX4_takeStep_0 rfl rfl rfl ?_
  refine pr_getI 4 dX4_takeStep_1 fX4_103 rfl ?_
  rw [hw]
  refine pr_iconst (-1) 5 dX4_takeStep_4 (by decide) rfl ?_
  refine pr_icmp_eq 13 8 dX4_takeStep_5 rfl rfl (fun c_5 => absurd (c_5) (hn)) (fun c_5 => ?_)
  refine pr_aload_n 9 dX4_takeStep_8 rfl rfl rfl ?_
  refine pr_invD0 12 dX4_takeStep_9 vX4_138 mX4_takeNumberOfStep (hc) ⟨Nat.le_of_ble_eq_true rfl, Nat.le_of_ble_eq_true rfl⟩ (Nat.le_of_ble_eq_true rfl) rfl ?_
  refine pr_zreturn dX4_takeStep_12 rfl (hv) ?_
  exact ⟨rfl, rfl⟩
set_option maxRecDepth 100000 in
theorem tt_begin (hw : mem.1 10004904 0 5 = -1) (hv : v = 0 ∨ v = 1) (hc : Cd yX4_beginLine cX4_beginLine 2 (some .boolean) 2 44 [pR 10004904 0] mem (some (pI v)) mem') : Cd yX4_takeToken cX4_takeToken 1 (some .boolean) 5 104 [pR 10004904 0] mem (some (pI v)) mem' := by
  refine Cl.of (own := RX4) rfl rfl (Nat.le_of_ble_eq_true rfl) rfl ?_; show PR _ _ _ _ _ _ [some _] _ _ _
  refine pr_aload_n 1 dX4_takeToken_0 rfl rfl rfl ?_
  refine pr_getI 4 dX4_takeToken_1 fX4_43 rfl ?_
  rw [hw]
  refine pr_iconst (-1) 5 dX4_takeToken_4 (by decide) rfl ?_
  refine pr_icmp_ne 13 8 dX4_takeToken_5 rfl rfl (fun c_5 => absurd (rfl) (c_5)) (fun c_5 => ?_)
  refine pr_aload_n 9 dX4_takeToken_8 rfl rfl rfl ?_
  refine pr_invD0 12 dX4_takeToken_9 vX4_69 mX4_beginLine (hc) ⟨Nat.le_of_ble_eq_true rfl, Nat.le_of_ble_eq_true rfl⟩ (Nat.le_of_ble_eq_true rfl) rfl ?_
  refine pr_zreturn dX4_takeToken_12 rfl (hv) ?_
  exact ⟨rfl, rfl⟩
theorem nI_m1 {w : Nat} (hw2 : w < 100) : ¬ nI w = -1 := fun z => by
  have h0 : nI w < 0 := by rw [z]; decide
  exact nI_pos (by omega) h0
set_option maxRecDepth 100000 in
theorem tt_field {w f : Nat} (hw : mem.1 10004904 0 5 = nI w) (hw2 : w < 100) (hn : mem.1 10004904 0 7 = nI n) (hf : mem.1 10004904 0 8 = nI f) (hnf : n < f) (hf3 : f ≤ 3) (hv : v = 0 ∨ v = 1) (hc : Cd yX4_takeField cX4_takeField 1 (some .boolean) 4 84 [pR 10004904 0] mem (some (pI v)) mem') : Cd yX4_takeToken cX4_takeToken 1 (some .boolean) 5 104 [pR 10004904 0] mem (some (pI v)) mem' := by
  refine Cl.of (own := RX4) rfl rfl (Nat.le_of_ble_eq_true rfl) rfl ?_; show PR _ _ _ _ _ _ [some _] _ _ _
  refine pr_aload_n 1 dX4_takeToken_0 rfl rfl rfl ?_
  refine pr_getI 4 dX4_takeToken_1 fX4_43 rfl ?_
  rw [hw]
  refine pr_iconst (-1) 5 dX4_takeToken_4 (by decide) rfl ?_
  refine pr_icmp_ne 13 8 dX4_takeToken_5 rfl rfl (fun c_5 => ?_) (fun c_5 => absurd (c_5) (nI_m1 hw2))
  refine pr_aload_n 14 dX4_takeToken_13 rfl rfl rfl ?_
  refine pr_getI 17 dX4_takeToken_14 fX4_72 rfl ?_
  rw [hn]
  refine pr_aload_n 18 dX4_takeToken_17 rfl rfl rfl ?_
  refine pr_getI 21 dX4_takeToken_18 fX4_75 rfl ?_
  rw [hf]
  refine pr_icmp_ge 29 24 dX4_takeToken_21 rfl rfl (fun c_21 => absurd (c_21) (nI_ge (by omega) (by omega))) (fun c_21 => ?_)
  refine pr_aload_n 25 dX4_takeToken_24 rfl rfl rfl ?_
  refine pr_invD0 28 dX4_takeToken_25 vX4_78 mX4_takeField (hc) ⟨Nat.le_of_ble_eq_true rfl, Nat.le_of_ble_eq_true rfl⟩ (Nat.le_of_ble_eq_true rfl) rfl ?_
  refine pr_zreturn dX4_takeToken_28 rfl (hv) ?_
  exact ⟨rfl, rfl⟩
set_option maxRecDepth 100000 in
theorem tt_step {f : Nat} (hw : mem.1 10004904 0 5 = nI 9) (hn : mem.1 10004904 0 7 = nI n) (hf : mem.1 10004904 0 8 = nI f) (hnf : f ≤ n) (hf3 : n ≤ 3) (hv : v = 0 ∨ v = 1) (hc : Cd yX4_takeStep cX4_takeStep 1 (some .boolean) 3 63 [pR 10004904 0] mem (some (pI v)) mem') : Cd yX4_takeToken cX4_takeToken 1 (some .boolean) 5 104 [pR 10004904 0] mem (some (pI v)) mem' := by
  refine Cl.of (own := RX4) rfl rfl (Nat.le_of_ble_eq_true rfl) rfl ?_; show PR _ _ _ _ _ _ [some _] _ _ _
  refine pr_aload_n 1 dX4_takeToken_0 rfl rfl rfl ?_
  refine pr_getI 4 dX4_takeToken_1 fX4_43 rfl ?_
  rw [hw]
  refine pr_iconst (-1) 5 dX4_takeToken_4 (by decide) rfl ?_
  refine pr_icmp_ne 13 8 dX4_takeToken_5 rfl rfl (fun c_5 => ?_) (fun c_5 => absurd (c_5) (nI_m1 (by omega)))
  refine pr_aload_n 14 dX4_takeToken_13 rfl rfl rfl ?_
  refine pr_getI 17 dX4_takeToken_14 fX4_72 rfl ?_
  rw [hn]
  refine pr_aload_n 18 dX4_takeToken_17 rfl rfl rfl ?_
  refine pr_getI 21 dX4_takeToken_18 fX4_75 rfl ?_
  rw [hf]
  refine pr_icmp_ge 29 24 dX4_takeToken_21 rfl rfl (fun c_21 => ?_) (fun c_21 => absurd ((nI_leI (by omega) (by omega)).mpr (by omega)) (c_21))
  refine pr_aload_n 30 dX4_takeToken_29 rfl rfl rfl ?_
  refine pr_getI 33 dX4_takeToken_30 fX4_43 rfl ?_
  rw [hw]
  refine pr_bipush (9) 35 dX4_takeToken_33 (by decide) rfl ?_
  refine pr_icmp_ne 43 38 dX4_takeToken_35 rfl rfl (fun c_35 => absurd (rfl) (c_35)) (fun c_35 => ?_)
  refine pr_aload_n 39 dX4_takeToken_38 rfl rfl rfl ?_
  refine pr_invD0 42 dX4_takeToken_39 vX4_81 mX4_takeStep (hc) ⟨Nat.le_of_ble_eq_true rfl, Nat.le_of_ble_eq_true rfl⟩ (Nat.le_of_ble_eq_true rfl) rfl ?_
  refine pr_zreturn dX4_takeToken_42 rfl (hv) ?_
  exact ⟨rfl, rfl⟩
set_option maxRecDepth 100000 in
theorem tt_end {w f : Nat} (hk : mem.1 10006906 0 1 = nI 3) (hw : mem.1 10004904 0 5 = nI w) (hw2 : w < 9) (hn : mem.1 10004904 0 7 = nI n) (hf : mem.1 10004904 0 8 = nI f) (hnf : f ≤ n) (hf3 : n ≤ 3) (hc : Cd yX4_endLine cX4_endLine 1 (some .boolean) 1 23 [pR 10004904 0] mem (some (pI 1)) mem') : Cd yX4_takeToken cX4_takeToken 1 (some .boolean) 5 104 [pR 10004904 0] mem (some (pI 1)) mem' := by
  refine Cl.of (own := RX4) rfl rfl (Nat.le_of_ble_eq_true rfl) rfl ?_; show PR _ _ _ _ _ _ [some _] _ _ _
  refine pr_aload_n 1 dX4_takeToken_0 rfl rfl rfl ?_
  refine pr_getI 4 dX4_takeToken_1 fX4_43 rfl ?_
  rw [hw]
  refine pr_iconst (-1) 5 dX4_takeToken_4 (by decide) rfl ?_
  refine pr_icmp_ne 13 8 dX4_takeToken_5 rfl rfl (fun c_5 => ?_) (fun c_5 => absurd (c_5) (nI_m1 (by omega)))
  refine pr_aload_n 14 dX4_takeToken_13 rfl rfl rfl ?_
  refine pr_getI 17 dX4_takeToken_14 fX4_72 rfl ?_
  rw [hn]
  refine pr_aload_n 18 dX4_takeToken_17 rfl rfl rfl ?_
  refine pr_getI 21 dX4_takeToken_18 fX4_75 rfl ?_
  rw [hf]
  refine pr_icmp_ge 29 24 dX4_takeToken_21 rfl rfl (fun c_21 => ?_) (fun c_21 => absurd ((nI_leI (by omega) (by omega)).mpr (by omega)) (c_21))
  refine pr_aload_n 30 dX4_takeToken_29 rfl rfl rfl ?_
  refine pr_getI 33 dX4_takeToken_30 fX4_43 rfl ?_
  rw [hw]
  refine pr_bipush (9) 35 dX4_takeToken_33 (by decide) rfl ?_
  refine pr_icmp_ne 43 38 dX4_takeToken_35 rfl rfl (fun c_35 => ?_) (fun c_35 => absurd (c_35) (fun z => by have := (nI_eq (a := w) (b := 9) (by omega) (by omega)).mp z; omega))
  refine pr_aload_n 44 dX4_takeToken_43 rfl rfl rfl ?_
  refine pr_getR0 47 dX4_takeToken_44 fX4_20 rfl ?_
  refine pr_getI 50 dX4_takeToken_47 fX4_52 rfl ?_
  rw [hk]
  refine pr_iconst (3) 51 dX4_takeToken_50 (by decide) rfl ?_
  refine pr_icmp_ne 61 54 dX4_takeToken_51 rfl rfl (fun c_51 => absurd (rfl) (c_51)) (fun c_51 => ?_)
  refine pr_aload_n 55 dX4_takeToken_54 rfl rfl rfl ?_
  refine pr_invD0 58 dX4_takeToken_55 vX4_84 mX4_endLine (hc) ⟨Nat.le_of_ble_eq_true rfl, Nat.le_of_ble_eq_true rfl⟩ (Nat.le_of_ble_eq_true rfl) rfl ?_
  refine pr_goto 66 dX4_takeToken_58 rfl ?_
  refine pr_zreturn dX4_takeToken_66 rfl (by first | exact Or.inl rfl | exact Or.inr rfl) ?_
  exact ⟨rfl, rfl⟩
set_option maxRecDepth 100000 in
theorem tt_ref {w f : Nat} (h : ctk mem B T p) (hk : ¬ tK B T p = 3) (hw : mem.1 10004904 0 5 = nI w) (hw2 : w < 9) (hn : mem.1 10004904 0 7 = nI n) (hf : mem.1 10004904 0 8 = nI f) (hnf : f ≤ n) (hf3 : n ≤ 3) : Cd yX4_takeToken cX4_takeToken 1 (some .boolean) 5 104 [pR 10004904 0] mem (some (pI 0)) (rfM mem 1 (tS B T p)) := by
  have hk14 := tK_lt B T p
  refine Cl.of (own := RX4) rfl rfl (Nat.le_of_ble_eq_true rfl) rfl ?_; show PR _ _ _ _ _ _ [some _] _ _ _
  refine pr_aload_n 1 dX4_takeToken_0 rfl rfl rfl ?_
  refine pr_getI 4 dX4_takeToken_1 fX4_43 rfl ?_
  rw [hw]
  refine pr_iconst (-1) 5 dX4_takeToken_4 (by decide) rfl ?_
  refine pr_icmp_ne 13 8 dX4_takeToken_5 rfl rfl (fun c_5 => ?_) (fun c_5 => absurd (c_5) (nI_m1 (by omega)))
  refine pr_aload_n 14 dX4_takeToken_13 rfl rfl rfl ?_
  refine pr_getI 17 dX4_takeToken_14 fX4_72 rfl ?_
  rw [hn]
  refine pr_aload_n 18 dX4_takeToken_17 rfl rfl rfl ?_
  refine pr_getI 21 dX4_takeToken_18 fX4_75 rfl ?_
  rw [hf]
  refine pr_icmp_ge 29 24 dX4_takeToken_21 rfl rfl (fun c_21 => ?_) (fun c_21 => absurd ((nI_leI (by omega) (by omega)).mpr (by omega)) (c_21))
  refine pr_aload_n 30 dX4_takeToken_29 rfl rfl rfl ?_
  refine pr_getI 33 dX4_takeToken_30 fX4_43 rfl ?_
  rw [hw]
  refine pr_bipush (9) 35 dX4_takeToken_33 (by decide) rfl ?_
  refine pr_icmp_ne 43 38 dX4_takeToken_35 rfl rfl (fun c_35 => ?_) (fun c_35 => absurd (c_35) (fun z => by have := (nI_eq (a := w) (b := 9) (by omega) (by omega)).mp z; omega))
  refine pr_aload_n 44 dX4_takeToken_43 rfl rfl rfl ?_
  refine pr_getR0 47 dX4_takeToken_44 fX4_20 rfl ?_
  refine pr_getI 50 dX4_takeToken_47 fX4_52 rfl ?_
  rw [h.1]
  refine pr_iconst (3) 51 dX4_takeToken_50 (by decide) rfl ?_
  refine pr_icmp_ne 61 54 dX4_takeToken_51 rfl rfl (fun c_51 => ?_) (fun c_51 => absurd (c_51) (fun z => hk ((nI_eq (a := tK B T p) (b := 3) (by omega) (by omega)).mp z)))
  refine pr_aload_n 62 dX4_takeToken_61 rfl rfl rfl ?_
  refine pr_iconst (1) 63 dX4_takeToken_62 (by decide) rfl ?_
  refine pr_invD1 66 dX4_takeToken_63 vX4_62 mX4_refuse (sp_X4_refuse h 1) ⟨Nat.le_of_ble_eq_true rfl, Nat.le_of_ble_eq_true rfl⟩ (Nat.le_of_ble_eq_true rfl) rfl ?_
  refine pr_zreturn dX4_takeToken_66 rfl (by first | exact Or.inl rfl | exact Or.inr rfl) ?_
  exact ⟨rfl, rfl⟩
end TOK2
