/-! the class: its queries -/
def vb (p : Int32) (n : Nat) : Int32 := if (vix p n).isSome = true then 1 else 0
theorem vb_n {p : Int32} {n : Nat} (h : vix p n = none) : vb p n = 0 := by rw [vb, h]; rfl
theorem vb_s {p : Int32} {n j : Nat} (h : vix p n = some j) : ¬ vb p n = 0 := by simp [vb, h]
theorem vb_s1 {p : Int32} {n j : Nat} (h : vix p n = some j) : vb p n = 1 := by rw [vb, h]; rfl
theorem nI_nm {n : Nat} (h : n < 2 ^ 31) : ¬ nI n = -1 := by
  intro z
  have := congrArg Int32.toInt z
  rw [nI_toInt h] at this
  have e : (-1 : Int32).toInt = -1 := rfl
  rw [e] at this
  omega
theorem vix_out {x : Int32} {n : Nat} (h : x.toInt < 0 ∨ (n : Int) < x.toInt) : vix x (n + 1) = none := by
  unfold vix
  rw [if_neg (by omega)]
theorem sp_isInV {mem : pm_M} (p : Int32) {n : Nat} (hn : n < 2000) : Cd yX8_isIn cX8_isIn 2 (some .boolean) 0 0 [pI p, pI (nI n)] mem (some (pI (vb p n))) mem := by
  have := sp_X8_isIn (mem := mem) p (nI n)
  have e : (if 0 ≤ p ∧ p < nI n then (1 : Int32) else 0) = vb p n := by
    rcases hv : vix p n with _ | j
    · rw [vb_n hv]; exact (vixC hn).mpr hv
    · rw [vb_s1 hv]
      by_cases z : 0 ≤ p ∧ p < nI n
      · rw [if_pos z]
      · exfalso
        have := (vixC (i := p) hn).mp (by rw [if_neg z])
        rw [hv] at this
        cases this
  rw [e] at this
  exact this
/-- the answers -/
def q_direct (K : Nat → Nat) (a b : Int32) : Int32 := (vix a (K 37)).elim (-1) (fun i => (vix b (K 37)).elim (-1) (fun j => nI (dd K i j)))
def q_share (K : Nat → Nat) (t l : Int32) : Int32 := (vix l (K 39)).elim (-1) (fun j => if t = -1 then nI (ofo K (aw K) ai (K 39) j) else (vix t (K 40)).elim (-1) (fun i => nI (oft K (aw K) ai (K 39) i j)))
def gpc (o : Option gG) (c : Nat) : Nat := match o with
  | none => 0
  | some q => if c = 0 then q.1 else if c = 1 then q.2.1 else q.2.2
def q_gap (K : Nat → Nat) (k w : Int32) : Int32 := (vix k (gps K).length).elim (-1) (fun i => (vix w 3).elim (-1) (fun c => nI (gpc ((gps K)[i]?) c)))
def q_way (K : Nat → Nat) (a b : Int32) : Int32 := (vix a (K 37)).elim (-1) (fun i => (vix b (K 37)).elim (-1) (fun j => if i = j then -1 else nI (K (709 + 12 * i + j))))
def q_hub (K : Nat → Nat) (p : Int32) : Int32 := (vix p (K 37)).elim (-1) (fun i => nI (chs K true i (K 39)))
def drs (K : Nat → Nat) : Nat → Option Nat
  | 0 => none
  | t + 1 => if idl K (aw K) ai (K 39) t = true then drs K t else
    match drs K t with
    | none => some t
    | some b => if gvn K (aw K) ai (K 39) b * pts K (aw K) ai (K 39) t < gvn K (aw K) ai (K 39) t * pts K (aw K) ai (K 39) b then some t else some b
theorem drs_lt {K : Nat → Nat} : ∀ {t b : Nat}, drs K t = some b → b < t
  | 0, _, h => by cases h
  | t + 1, b, h => by
    unfold drs at h
    split at h
    · have := drs_lt h; omega
    · split at h
      · cases h; omega
      next b' hb =>
        have := drs_lt hb
        split at h <;> cases h <;> omega
def bzM (K : Nat → Nat) : Option Nat → Nat
  | none => 0
  | some b => K (709 + b)
def bzI : Option Nat → Int32
  | none => -1
  | some b => nI (100 * (b / 12) + b % 12)
def bz (K : Nat → Nat) : Nat → Option Nat
  | 0 => none
  | k + 1 => if bzM K (bz K k) < K (709 + k) then some k else bz K k
theorem bz_0 {K : Nat → Nat} {k : Nat} (h : K (709 + k) = 0) : bz K (k + 1) = bz K k := by
  rw [bz, if_neg (by omega)]
theorem bz_run {K : Nat → Nat} {a : Nat} : ∀ {n : Nat}, (∀ k, a ≤ k → k < a + n → K (709 + k) = 0) → bz K (a + n) = bz K a
  | 0, _ => rfl
  | n + 1, h => by
    rw [show a + (n + 1) = (a + n) + 1 by omega, bz_0 (h (a + n) (by omega) (by omega))]
    exact bz_run (fun k h1 h2 => h k h1 (by omega))
/-- nothing beyond what was told -/
def WZ (K : Nat → Nat) : Prop := (∀ k, K 38 ≤ k → k < 4 → K k = 0) ∧ (∀ a b, a < 12 → b < 12 → K 37 ≤ a ∨ K 37 ≤ b ∨ a = b → K (709 + 12 * a + b) = 0) ∧ ∀ k, k < 144 → K (709 + k) < 1000000
theorem bz_lt {K : Nat → Nat} : ∀ {k b : Nat}, bz K k = some b → b < k
  | 0, _, h => by cases h
  | k + 1, b, h => by
    unfold bz at h
    split at h
    · cases h; omega
    · have := bz_lt h; omega
theorem bzM_lt {K : Nat → Nat} (hZ : WZ K) {k : Nat} (hk : k ≤ 144) : bzM K (bz K k) < 1000000 := by
  rcases h : bz K k with _ | b
  · exact Nat.zero_lt_succ _
  · exact hZ.2.2 b (by have := bz_lt h; omega)
def q_truck (K : Nat → Nat) (k w : Int32) : Int32 := (vix k (K 38)).elim (-1) (fun i => (vix w 8).elim (-1) (fun c =>
  if c = 0 then nI (K (65 + i)) else if c = 1 then nI (K i) else if c = 2 then nI (tbk K i (K 40)) else if c = 3 then nI (sm (fun t => if K (101 + 6 * t) = i then K (102 + 6 * t) else 0) (K 40)) else if c = 4 then nI (sm (fun t => if K (101 + 6 * t) = i then K (103 + 6 * t) else 0) (K 40)) else if c = 5 then nI (tld K i) else if c = 6 then onI (lt K i (K 40)) else nI (sm (fun t => if K (101 + 6 * t) = i then est K t else 0) (K 40))))
def q_now (K : Nat → Nat) (sn tp : Nat) (w : Int32) : Int32 := (vix w 12).elim (-1) (fun c => nI (
  if c = 0 then K 36 else if c = 1 then K 37 else if c = 2 then K 38 else if c = 3 then K 39 else if c = 4 then K 40 else if c = 5 then sm (fun k => K k) (K 38) else if c = 6 then sm (shr K (aw K) ai (K 39)) (K 39) else if c = 7 then opn K (aw K) ai (K 39) else if c = 8 then hbs K (K 37) else if c = 9 then (gps K).length else if c = 10 then sn else tp))
section CF
variable {mem : pm_M} {d : Nat} {K : Nat → Nat}
set_option maxRecDepth 100000 in
theorem sp_X8_direct (h : IC mem d K) (hW : WF K) (a b : Int32) : Cd yX8_direct cX8_direct 3 (some .int) 2 44 [pR 10008908 0, pI a, pI b] mem (some (pI (q_direct K a b))) mem := by
  have h12 := hW.2.1
  obtain ⟨h1, hd, -⟩ := h
  refine Cl.of (own := RX8) rfl rfl (Nat.le_of_ble_eq_true rfl) rfl ?_; show PR _ _ _ _ _ _ [some _, some _, some _] _ _ _
  rcases ha : vix a (K 37) with _ | i
  · refine pr_iload_n 1 dX8_direct_0 rfl rfl rfl ?_
    refine pr_aload_n 2 dX8_direct_1 rfl rfl rfl ?_
    refine pr_getP d 5 dX8_direct_2 fX8_52 h1 rfl ?_
    refine pr_getI 8 dX8_direct_5 fX8_96 rfl ?_
    rw [hd.2.1]
    refine pr_ivsD2 11 dX8_direct_8 sX8_129 mX8_isIn (sp_isInV _ (by omega)) ⟨Nat.le_of_ble_eq_true rfl, Nat.le_of_ble_eq_true rfl⟩ (Nat.le_of_ble_eq_true rfl) rfl ?_
    refine pr_if_eq 28 14 dX8_direct_11 rfl rfl (fun c_11 => ?_) (fun c_11 => absurd (vb_n ha) (c_11))
    refine pr_iconst (-1) 29 dX8_direct_28 (by decide) rfl ?_
    refine pr_ireturn dX8_direct_29 rfl ?_
    exact ⟨by simp [q_direct, ha], rfl⟩
  · rcases hb : vix b (K 37) with _ | j
    · refine pr_iload_n 1 dX8_direct_0 rfl rfl rfl ?_
      refine pr_aload_n 2 dX8_direct_1 rfl rfl rfl ?_
      refine pr_getP d 5 dX8_direct_2 fX8_52 h1 rfl ?_
      refine pr_getI 8 dX8_direct_5 fX8_96 rfl ?_
      rw [hd.2.1]
      refine pr_ivsD2 11 dX8_direct_8 sX8_129 mX8_isIn (sp_isInV _ (by omega)) ⟨Nat.le_of_ble_eq_true rfl, Nat.le_of_ble_eq_true rfl⟩ (Nat.le_of_ble_eq_true rfl) rfl ?_
      refine pr_if_eq 28 14 dX8_direct_11 rfl rfl (fun c_11 => absurd (c_11) (vb_s ha)) (fun c_11 => ?_)
      refine pr_iload_n 15 dX8_direct_14 rfl rfl rfl ?_
      refine pr_aload_n 16 dX8_direct_15 rfl rfl rfl ?_
      refine pr_getP d 19 dX8_direct_16 fX8_52 h1 rfl ?_
      refine pr_getI 22 dX8_direct_19 fX8_96 rfl ?_
      rw [hd.2.1]
      refine pr_ivsD2 25 dX8_direct_22 sX8_129 mX8_isIn (sp_isInV _ (by omega)) ⟨Nat.le_of_ble_eq_true rfl, Nat.le_of_ble_eq_true rfl⟩ (Nat.le_of_ble_eq_true rfl) rfl ?_
      refine pr_if_ne 30 28 dX8_direct_25 rfl rfl (fun c_25 => absurd (vb_n hb) (c_25)) (fun c_25 => ?_)
      refine pr_iconst (-1) 29 dX8_direct_28 (by decide) rfl ?_
      refine pr_ireturn dX8_direct_29 rfl ?_
      exact ⟨by simp [q_direct, ha, hb], rfl⟩
    · obtain ⟨rfl, hi⟩ := vix_some (by omega) ha
      obtain ⟨rfl, hj⟩ := vix_some (by omega) hb
      refine pr_iload_n 1 dX8_direct_0 rfl rfl rfl ?_
      refine pr_aload_n 2 dX8_direct_1 rfl rfl rfl ?_
      refine pr_getP d 5 dX8_direct_2 fX8_52 h1 rfl ?_
      refine pr_getI 8 dX8_direct_5 fX8_96 rfl ?_
      rw [hd.2.1]
      refine pr_ivsD2 11 dX8_direct_8 sX8_129 mX8_isIn (sp_isInV _ (by omega)) ⟨Nat.le_of_ble_eq_true rfl, Nat.le_of_ble_eq_true rfl⟩ (Nat.le_of_ble_eq_true rfl) rfl ?_
      refine pr_if_eq 28 14 dX8_direct_11 rfl rfl (fun c_11 => absurd (c_11) (vb_s ha)) (fun c_11 => ?_)
      refine pr_iload_n 15 dX8_direct_14 rfl rfl rfl ?_
      refine pr_aload_n 16 dX8_direct_15 rfl rfl rfl ?_
      refine pr_getP d 19 dX8_direct_16 fX8_52 h1 rfl ?_
      refine pr_getI 22 dX8_direct_19 fX8_96 rfl ?_
      rw [hd.2.1]
      refine pr_ivsD2 25 dX8_direct_22 sX8_129 mX8_isIn (sp_isInV _ (by omega)) ⟨Nat.le_of_ble_eq_true rfl, Nat.le_of_ble_eq_true rfl⟩ (Nat.le_of_ble_eq_true rfl) rfl ?_
      refine pr_if_ne 30 28 dX8_direct_25 rfl rfl (fun c_25 => ?_) (fun c_25 => absurd (c_25) (vb_s hb))
      refine pr_aload_n 31 dX8_direct_30 rfl rfl rfl ?_
      refine pr_getP d 34 dX8_direct_31 fX8_52 h1 rfl ?_
      refine pr_iload_n 35 dX8_direct_34 rfl rfl rfl ?_
      refine pr_iload_n 36 dX8_direct_35 rfl rfl rfl ?_
      refine pr_invD2 39 dX8_direct_36 vX8_133 mX0_distance (hd.dist hW hi hj) ⟨Nat.le_of_ble_eq_true rfl, Nat.le_of_ble_eq_true rfl⟩ (Nat.le_of_ble_eq_true rfl) rfl ?_
      refine pr_ireturn dX8_direct_39 rfl ?_
      exact ⟨by simp [q_direct, ha, hb], rfl⟩
set_option maxRecDepth 100000 in
theorem sp_X8_way (h : IC mem d K) (hW : WF K) (a b : Int32) : Cd yX8_way cX8_way 3 (some .int) 1 21 [pR 10008908 0, pI a, pI b] mem (some (pI (q_way K a b))) mem := by
  have h12 := hW.2.1
  obtain ⟨h1, hd, -, -, -, hw, -⟩ := h
  refine Cl.of (own := RX8) rfl rfl (Nat.le_of_ble_eq_true rfl) rfl ?_; show PR _ _ _ _ _ _ [some _, some _, some _] _ _ _
  rcases ha : vix a (K 37) with _ | i
  · refine pr_iload_n 1 dX8_way_0 rfl rfl rfl ?_
    refine pr_aload_n 2 dX8_way_1 rfl rfl rfl ?_
    refine pr_getP d 5 dX8_way_2 fX8_52 h1 rfl ?_
    refine pr_getI 8 dX8_way_5 fX8_96 rfl ?_
    rw [hd.2.1]
    refine pr_ivsD2 11 dX8_way_8 sX8_129 mX8_isIn (sp_isInV _ (by omega)) ⟨Nat.le_of_ble_eq_true rfl, Nat.le_of_ble_eq_true rfl⟩ (Nat.le_of_ble_eq_true rfl) rfl ?_
    refine pr_if_eq 33 14 dX8_way_11 rfl rfl (fun c_11 => ?_) (fun c_11 => absurd (vb_n ha) (c_11))
    refine pr_iconst (-1) 34 dX8_way_33 (by decide) rfl ?_
    refine pr_ireturn dX8_way_34 rfl ?_
    exact ⟨by simp [q_way, ha], rfl⟩
  · rcases hb : vix b (K 37) with _ | j
    · refine pr_iload_n 1 dX8_way_0 rfl rfl rfl ?_
      refine pr_aload_n 2 dX8_way_1 rfl rfl rfl ?_
      refine pr_getP d 5 dX8_way_2 fX8_52 h1 rfl ?_
      refine pr_getI 8 dX8_way_5 fX8_96 rfl ?_
      rw [hd.2.1]
      refine pr_ivsD2 11 dX8_way_8 sX8_129 mX8_isIn (sp_isInV _ (by omega)) ⟨Nat.le_of_ble_eq_true rfl, Nat.le_of_ble_eq_true rfl⟩ (Nat.le_of_ble_eq_true rfl) rfl ?_
      refine pr_if_eq 33 14 dX8_way_11 rfl rfl (fun c_11 => absurd (c_11) (vb_s ha)) (fun c_11 => ?_)
      refine pr_iload_n 15 dX8_way_14 rfl rfl rfl ?_
      refine pr_aload_n 16 dX8_way_15 rfl rfl rfl ?_
      refine pr_getP d 19 dX8_way_16 fX8_52 h1 rfl ?_
      refine pr_getI 22 dX8_way_19 fX8_96 rfl ?_
      rw [hd.2.1]
      refine pr_ivsD2 25 dX8_way_22 sX8_129 mX8_isIn (sp_isInV _ (by omega)) ⟨Nat.le_of_ble_eq_true rfl, Nat.le_of_ble_eq_true rfl⟩ (Nat.le_of_ble_eq_true rfl) rfl ?_
      refine pr_if_eq 33 28 dX8_way_25 rfl rfl (fun c_25 => ?_) (fun c_25 => absurd (vb_n hb) (c_25))
      refine pr_iconst (-1) 34 dX8_way_33 (by decide) rfl ?_
      refine pr_ireturn dX8_way_34 rfl ?_
      exact ⟨by simp [q_way, ha, hb], rfl⟩
    · obtain ⟨rfl, hi⟩ := vix_some (by omega) ha
      obtain ⟨rfl, hj⟩ := vix_some (by omega) hb
      by_cases e : i = j
      · refine pr_iload_n 1 dX8_way_0 rfl rfl rfl ?_
        refine pr_aload_n 2 dX8_way_1 rfl rfl rfl ?_
        refine pr_getP d 5 dX8_way_2 fX8_52 h1 rfl ?_
        refine pr_getI 8 dX8_way_5 fX8_96 rfl ?_
        rw [hd.2.1]
        refine pr_ivsD2 11 dX8_way_8 sX8_129 mX8_isIn (sp_isInV _ (by omega)) ⟨Nat.le_of_ble_eq_true rfl, Nat.le_of_ble_eq_true rfl⟩ (Nat.le_of_ble_eq_true rfl) rfl ?_
        refine pr_if_eq 33 14 dX8_way_11 rfl rfl (fun c_11 => absurd (c_11) (vb_s ha)) (fun c_11 => ?_)
        refine pr_iload_n 15 dX8_way_14 rfl rfl rfl ?_
        refine pr_aload_n 16 dX8_way_15 rfl rfl rfl ?_
        refine pr_getP d 19 dX8_way_16 fX8_52 h1 rfl ?_
        refine pr_getI 22 dX8_way_19 fX8_96 rfl ?_
        rw [hd.2.1]
        refine pr_ivsD2 25 dX8_way_22 sX8_129 mX8_isIn (sp_isInV _ (by omega)) ⟨Nat.le_of_ble_eq_true rfl, Nat.le_of_ble_eq_true rfl⟩ (Nat.le_of_ble_eq_true rfl) rfl ?_
        refine pr_if_eq 33 28 dX8_way_25 rfl rfl (fun c_25 => absurd (c_25) (vb_s hb)) (fun c_25 => ?_)
        refine pr_iload_n 29 dX8_way_28 rfl rfl rfl ?_
        refine pr_iload_n 30 dX8_way_29 rfl rfl rfl ?_
        refine pr_icmp_ne 35 33 dX8_way_30 rfl rfl (fun c_30 => absurd (congrArg nI e) (c_30)) (fun c_30 => ?_)
        refine pr_iconst (-1) 34 dX8_way_33 (by decide) rfl ?_
        refine pr_ireturn dX8_way_34 rfl ?_
        exact ⟨by simp [q_way, ha, hb, e], rfl⟩
      · refine pr_iload_n 1 dX8_way_0 rfl rfl rfl ?_
        refine pr_aload_n 2 dX8_way_1 rfl rfl rfl ?_
        refine pr_getP d 5 dX8_way_2 fX8_52 h1 rfl ?_
        refine pr_getI 8 dX8_way_5 fX8_96 rfl ?_
        rw [hd.2.1]
        refine pr_ivsD2 11 dX8_way_8 sX8_129 mX8_isIn (sp_isInV _ (by omega)) ⟨Nat.le_of_ble_eq_true rfl, Nat.le_of_ble_eq_true rfl⟩ (Nat.le_of_ble_eq_true rfl) rfl ?_
        refine pr_if_eq 33 14 dX8_way_11 rfl rfl (fun c_11 => absurd (c_11) (vb_s ha)) (fun c_11 => ?_)
        refine pr_iload_n 15 dX8_way_14 rfl rfl rfl ?_
        refine pr_aload_n 16 dX8_way_15 rfl rfl rfl ?_
        refine pr_getP d 19 dX8_way_16 fX8_52 h1 rfl ?_
        refine pr_getI 22 dX8_way_19 fX8_96 rfl ?_
        rw [hd.2.1]
        refine pr_ivsD2 25 dX8_way_22 sX8_129 mX8_isIn (sp_isInV _ (by omega)) ⟨Nat.le_of_ble_eq_true rfl, Nat.le_of_ble_eq_true rfl⟩ (Nat.le_of_ble_eq_true rfl) rfl ?_
        refine pr_if_eq 33 28 dX8_way_25 rfl rfl (fun c_25 => absurd (c_25) (vb_s hb)) (fun c_25 => ?_)
        refine pr_iload_n 29 dX8_way_28 rfl rfl rfl ?_
        refine pr_iload_n 30 dX8_way_29 rfl rfl rfl ?_
        refine pr_icmp_ne 35 33 dX8_way_30 rfl rfl (fun c_30 => ?_) (fun c_30 => absurd (c_30) (fun z => e ((nI_eq (by omega) (by omega)).mp z)))
        refine pr_aload_n 36 dX8_way_35 rfl rfl rfl ?_
        refine pr_getR0 39 dX8_way_36 fX8_28 rfl ?_
        refine pr_getR0 42 dX8_way_39 fX8_243 rfl ?_
        refine pr_iload_n 43 dX8_way_42 rfl rfl rfl ?_
        first | refine pr_aaload0 (n := 12) i 20012607 44 dX8_way_43 rfl rfl rfl rfl (by omega) rfl ?_ | refine pr_aaload (n := 12) i 20012607 44 dX8_way_43 rfl rfl rfl rfl (by omega) rfl ?_
        refine pr_iload_n 45 dX8_way_44 rfl rfl rfl ?_
        refine pr_iaload j 46 dX8_way_45 rfl rfl rfl (by omega) rfl ?_
        rw [hw i j hi hj]
        refine pr_ireturn dX8_way_46 rfl ?_
        exact ⟨by simp [q_way, ha, hb, e], rfl⟩
set_option maxRecDepth 100000 in
theorem sp_X8_share (h : IC mem d K) (hW : WF K) (t l : Int32) : Cd yX8_share cX8_share 3 (some .int) 1 21 [pR 10008908 0, pI t, pI l] mem (some (pI (q_share K t l))) mem := by
  have h16 := hW.2.2.2.2.1
  have hn16 := hW.2.2.2.1
  obtain ⟨h1, hd, -, -, -, -, hA⟩ := h
  refine Cl.of (own := RX8) rfl rfl (Nat.le_of_ble_eq_true rfl) rfl ?_; show PR _ _ _ _ _ _ [some _, some _, some _] _ _ _
  rcases hl : vix l (K 39) with _ | j
  · refine pr_iload_n 1 dX8_share_0 rfl rfl rfl ?_
    refine pr_aload_n 2 dX8_share_1 rfl rfl rfl ?_
    refine pr_getP d 5 dX8_share_2 fX8_52 h1 rfl ?_
    refine pr_getI 8 dX8_share_5 fX8_102 rfl ?_
    rw [hd.2.2.2.1]
    refine pr_ivsD2 11 dX8_share_8 sX8_129 mX8_isIn (sp_isInV _ (by omega)) ⟨Nat.le_of_ble_eq_true rfl, Nat.le_of_ble_eq_true rfl⟩ (Nat.le_of_ble_eq_true rfl) rfl ?_
    refine pr_if_ne 16 14 dX8_share_11 rfl rfl (fun c_11 => absurd (vb_n hl) (c_11)) (fun c_11 => ?_)
    refine pr_iconst (-1) 15 dX8_share_14 (by decide) rfl ?_
    refine pr_ireturn dX8_share_15 rfl ?_
    exact ⟨by simp [q_share, hl], rfl⟩
  · obtain ⟨rfl, hj⟩ := vix_some (by omega) hl
    by_cases e : t = -1
    · refine pr_iload_n 1 dX8_share_0 rfl rfl rfl ?_
      refine pr_aload_n 2 dX8_share_1 rfl rfl rfl ?_
      refine pr_getP d 5 dX8_share_2 fX8_52 h1 rfl ?_
      refine pr_getI 8 dX8_share_5 fX8_102 rfl ?_
      rw [hd.2.2.2.1]
      refine pr_ivsD2 11 dX8_share_8 sX8_129 mX8_isIn (sp_isInV _ (by omega)) ⟨Nat.le_of_ble_eq_true rfl, Nat.le_of_ble_eq_true rfl⟩ (Nat.le_of_ble_eq_true rfl) rfl ?_
      refine pr_if_ne 16 14 dX8_share_11 rfl rfl (fun c_11 => ?_) (fun c_11 => absurd (c_11) (vb_s hl))
      refine pr_iload_n 17 dX8_share_16 rfl rfl rfl ?_
      refine pr_iconst (-1) 18 dX8_share_17 (by decide) rfl ?_
      refine pr_icmp_ne 31 21 dX8_share_18 rfl rfl (fun c_18 => absurd (e) (c_18)) (fun c_18 => ?_)
      refine pr_aload_n 22 dX8_share_21 rfl rfl rfl ?_
      refine pr_getR0 25 dX8_share_22 fX8_35 rfl ?_
      refine pr_getR0 28 dX8_share_25 fX8_227 rfl ?_
      refine pr_iload_n 29 dX8_share_28 rfl rfl rfl ?_
      refine pr_iaload j 30 dX8_share_29 rfl rfl rfl (by omega) rfl ?_
      rw [(hA.2.2.2.2.2 j hj).1]
      refine pr_ireturn dX8_share_30 rfl ?_
      exact ⟨by simp [q_share, hl, e], rfl⟩
    · rcases ht : vix t (K 40) with _ | i
      · refine pr_iload_n 1 dX8_share_0 rfl rfl rfl ?_
        refine pr_aload_n 2 dX8_share_1 rfl rfl rfl ?_
        refine pr_getP d 5 dX8_share_2 fX8_52 h1 rfl ?_
        refine pr_getI 8 dX8_share_5 fX8_102 rfl ?_
        rw [hd.2.2.2.1]
        refine pr_ivsD2 11 dX8_share_8 sX8_129 mX8_isIn (sp_isInV _ (by omega)) ⟨Nat.le_of_ble_eq_true rfl, Nat.le_of_ble_eq_true rfl⟩ (Nat.le_of_ble_eq_true rfl) rfl ?_
        refine pr_if_ne 16 14 dX8_share_11 rfl rfl (fun c_11 => ?_) (fun c_11 => absurd (c_11) (vb_s hl))
        refine pr_iload_n 17 dX8_share_16 rfl rfl rfl ?_
        refine pr_iconst (-1) 18 dX8_share_17 (by decide) rfl ?_
        refine pr_icmp_ne 31 21 dX8_share_18 rfl rfl (fun c_18 => ?_) (fun c_18 => absurd (c_18) (e))
        refine pr_iload_n 32 dX8_share_31 rfl rfl rfl ?_
        refine pr_aload_n 33 dX8_share_32 rfl rfl rfl ?_
        refine pr_getP d 36 dX8_share_33 fX8_52 h1 rfl ?_
        refine pr_getI 39 dX8_share_36 fX8_105 rfl ?_
        rw [hd.2.2.2.2.1]
        refine pr_ivsD2 42 dX8_share_39 sX8_129 mX8_isIn (sp_isInV _ (by omega)) ⟨Nat.le_of_ble_eq_true rfl, Nat.le_of_ble_eq_true rfl⟩ (Nat.le_of_ble_eq_true rfl) rfl ?_
        refine pr_if_ne 47 45 dX8_share_42 rfl rfl (fun c_42 => absurd (vb_n ht) (c_42)) (fun c_42 => ?_)
        refine pr_iconst (-1) 46 dX8_share_45 (by decide) rfl ?_
        refine pr_ireturn dX8_share_46 rfl ?_
        exact ⟨by simp [q_share, hl, e, ht], rfl⟩
      · obtain ⟨rfl, hi⟩ := vix_some (by omega) ht
        have e1 := (hA.2.2.2.1 i hi).2.2 j hj
        rw [Nat.mul_zero, Nat.zero_add] at e1
        refine pr_iload_n 1 dX8_share_0 rfl rfl rfl ?_
        refine pr_aload_n 2 dX8_share_1 rfl rfl rfl ?_
        refine pr_getP d 5 dX8_share_2 fX8_52 h1 rfl ?_
        refine pr_getI 8 dX8_share_5 fX8_102 rfl ?_
        rw [hd.2.2.2.1]
        refine pr_ivsD2 11 dX8_share_8 sX8_129 mX8_isIn (sp_isInV _ (by omega)) ⟨Nat.le_of_ble_eq_true rfl, Nat.le_of_ble_eq_true rfl⟩ (Nat.le_of_ble_eq_true rfl) rfl ?_
        refine pr_if_ne 16 14 dX8_share_11 rfl rfl (fun c_11 => ?_) (fun c_11 => absurd (c_11) (vb_s hl))
        refine pr_iload_n 17 dX8_share_16 rfl rfl rfl ?_
        refine pr_iconst (-1) 18 dX8_share_17 (by decide) rfl ?_
        refine pr_icmp_ne 31 21 dX8_share_18 rfl rfl (fun c_18 => ?_) (fun c_18 => absurd (c_18) (e))
        refine pr_iload_n 32 dX8_share_31 rfl rfl rfl ?_
        refine pr_aload_n 33 dX8_share_32 rfl rfl rfl ?_
        refine pr_getP d 36 dX8_share_33 fX8_52 h1 rfl ?_
        refine pr_getI 39 dX8_share_36 fX8_105 rfl ?_
        rw [hd.2.2.2.2.1]
        refine pr_ivsD2 42 dX8_share_39 sX8_129 mX8_isIn (sp_isInV _ (by omega)) ⟨Nat.le_of_ble_eq_true rfl, Nat.le_of_ble_eq_true rfl⟩ (Nat.le_of_ble_eq_true rfl) rfl ?_
        refine pr_if_ne 47 45 dX8_share_42 rfl rfl (fun c_42 => ?_) (fun c_42 => absurd (c_42) (vb_s ht))
        refine pr_aload_n 48 dX8_share_47 rfl rfl rfl ?_
        refine pr_getR0 51 dX8_share_48 fX8_35 rfl ?_
        refine pr_getR0 54 dX8_share_51 fX8_230 rfl ?_
        refine pr_iload_n 55 dX8_share_54 rfl rfl rfl ?_
        first | refine pr_aaload0 (n := 16) i 20016492 56 dX8_share_55 rfl rfl rfl rfl (by omega) rfl ?_ | refine pr_aaload (n := 16) i 20016492 56 dX8_share_55 rfl rfl rfl rfl (by omega) rfl ?_
        refine pr_iload_n 57 dX8_share_56 rfl rfl rfl ?_
        refine pr_iaload j 58 dX8_share_57 rfl rfl rfl (by omega) rfl ?_
        rw [e1]
        refine pr_ireturn dX8_share_58 rfl ?_
        exact ⟨by simp [q_share, hl, e, ht], rfl⟩
set_option maxRecDepth 100000 in
theorem sp_X8_gap (h : IC mem d K) (hW : WF K) (k w : Int32) : Cd yX8_gap cX8_gap 3 (some .int) 1 21 [pR 10008908 0, pI k, pI w] mem (some (pI (q_gap K k w))) mem := by
  have hg := gps_len hW
  obtain ⟨h1, hd, -, hG, -⟩ := h
  refine Cl.of (own := RX8) rfl rfl (Nat.le_of_ble_eq_true rfl) rfl ?_; show PR _ _ _ _ _ _ [some _, some _, some _] _ _ _
  rcases hk : vix k (gps K).length with _ | i
  · refine pr_iload_n 1 dX8_gap_0 rfl rfl rfl ?_
    refine pr_aload_n 2 dX8_gap_1 rfl rfl rfl ?_
    refine pr_getR0 5 dX8_gap_2 fX8_28 rfl ?_
    refine pr_getI 8 dX8_gap_5 fX8_126 rfl ?_
    rw [hG.1]
    refine pr_ivsD2 11 dX8_gap_8 sX8_129 mX8_isIn (sp_isInV _ (by omega)) ⟨Nat.le_of_ble_eq_true rfl, Nat.le_of_ble_eq_true rfl⟩ (Nat.le_of_ble_eq_true rfl) rfl ?_
    refine pr_if_ne 16 14 dX8_gap_11 rfl rfl (fun c_11 => absurd (vb_n hk) (c_11)) (fun c_11 => ?_)
    refine pr_iconst (-1) 15 dX8_gap_14 (by decide) rfl ?_
    refine pr_ireturn dX8_gap_15 rfl ?_
    exact ⟨by simp [q_gap, hk], rfl⟩
  · obtain ⟨rfl, hi⟩ := vix_some (by omega) hk
    obtain ⟨g1, g2, g3⟩ := hG.2 i _ (List.getElem?_eq_getElem hi)
    refine pr_iload_n 1 dX8_gap_0 rfl rfl rfl ?_
    refine pr_aload_n 2 dX8_gap_1 rfl rfl rfl ?_
    refine pr_getR0 5 dX8_gap_2 fX8_28 rfl ?_
    refine pr_getI 8 dX8_gap_5 fX8_126 rfl ?_
    rw [hG.1]
    refine pr_ivsD2 11 dX8_gap_8 sX8_129 mX8_isIn (sp_isInV _ (by omega)) ⟨Nat.le_of_ble_eq_true rfl, Nat.le_of_ble_eq_true rfl⟩ (Nat.le_of_ble_eq_true rfl) rfl ?_
    refine pr_if_ne 16 14 dX8_gap_11 rfl rfl (fun c_11 => ?_) (fun c_11 => absurd (c_11) (vb_s hk))
    refine pr_iload_n 17 dX8_gap_16 rfl rfl rfl ?_
    rcases sw_c w 2 (by omega) with h_sw | ⟨c_sw, h_sw, rfl⟩
    · refine pr_table 74 dX8_gap_17 (Or.inl ⟨h_sw, rfl⟩) ?_
      refine pr_iconst (-1) 75 dX8_gap_74 (by decide) rfl ?_
      refine pr_ireturn dX8_gap_75 rfl ?_
      exact ⟨by simp [q_gap, hk, vix_out (n := 2) h_sw], rfl⟩
    · rcases (by omega : c_sw = 0 ∨ c_sw = 1 ∨ c_sw = 2) with rfl | rfl | rfl
      · refine pr_table 44 dX8_gap_17 (Or.inr ⟨by decide, by decide, 27, rfl, rfl⟩) ?_
        refine pr_aload_n 45 dX8_gap_44 rfl rfl rfl ?_
        refine pr_getR0 48 dX8_gap_45 fX8_28 rfl ?_
        refine pr_getR0 51 dX8_gap_48 fX8_234 rfl ?_
        refine pr_iload_n 52 dX8_gap_51 rfl rfl rfl ?_
        refine pr_iaload i 53 dX8_gap_52 rfl rfl rfl (by omega) rfl ?_
        refine pr_ireturn dX8_gap_53 rfl ?_
        exact ⟨by simp [q_gap, hk, vix_nI, g1, gpc, List.getElem?_eq_getElem hi], rfl⟩
      · refine pr_table 54 dX8_gap_17 (Or.inr ⟨by decide, by decide, 37, rfl, rfl⟩) ?_
        refine pr_aload_n 55 dX8_gap_54 rfl rfl rfl ?_
        refine pr_getR0 58 dX8_gap_55 fX8_28 rfl ?_
        refine pr_getR0 61 dX8_gap_58 fX8_237 rfl ?_
        refine pr_iload_n 62 dX8_gap_61 rfl rfl rfl ?_
        refine pr_iaload i 63 dX8_gap_62 rfl rfl rfl (by omega) rfl ?_
        refine pr_ireturn dX8_gap_63 rfl ?_
        exact ⟨by simp [q_gap, hk, vix_nI, g2, gpc, List.getElem?_eq_getElem hi], rfl⟩
      · refine pr_table 64 dX8_gap_17 (Or.inr ⟨by decide, by decide, 47, rfl, rfl⟩) ?_
        refine pr_aload_n 65 dX8_gap_64 rfl rfl rfl ?_
        refine pr_getR0 68 dX8_gap_65 fX8_28 rfl ?_
        refine pr_getR0 71 dX8_gap_68 fX8_240 rfl ?_
        refine pr_iload_n 72 dX8_gap_71 rfl rfl rfl ?_
        refine pr_iaload i 73 dX8_gap_72 rfl rfl rfl (by omega) rfl ?_
        refine pr_ireturn dX8_gap_73 rfl ?_
        exact ⟨by simp [q_gap, hk, vix_nI, g3, gpc, List.getElem?_eq_getElem hi], rfl⟩
set_option maxRecDepth 100000 in
theorem sp_X8_hub (h : IC mem d K) (hW : WF K) (p : Int32) : Cd yX8_hub cX8_hub 4 (some .int) 1 21 [pR 10008908 0, pI p] mem (some (pI (q_hub K p))) mem := by
  have h12 := hW.2.1
  have hn16 := hW.2.2.2.1
  obtain ⟨h1, hd, -, -, hx, -⟩ := h
  refine Cl.of (own := RX8) rfl rfl (Nat.le_of_ble_eq_true rfl) rfl ?_; show PR _ _ _ _ _ _ [some _, some _, none, none] _ _ _
  rcases hp : vix p (K 37) with _ | i
  · refine pr_iload_n 1 dX8_hub_0 rfl rfl rfl ?_
    refine pr_aload_n 2 dX8_hub_1 rfl rfl rfl ?_
    refine pr_getP d 5 dX8_hub_2 fX8_52 h1 rfl ?_
    refine pr_getI 8 dX8_hub_5 fX8_96 rfl ?_
    rw [hd.2.1]
    refine pr_ivsD2 11 dX8_hub_8 sX8_129 mX8_isIn (sp_isInV _ (by omega)) ⟨Nat.le_of_ble_eq_true rfl, Nat.le_of_ble_eq_true rfl⟩ (Nat.le_of_ble_eq_true rfl) rfl ?_
    refine pr_if_ne 16 14 dX8_hub_11 rfl rfl (fun c_11 => absurd (vb_n hp) (c_11)) (fun c_11 => ?_)
    refine pr_iconst (-1) 15 dX8_hub_14 (by decide) rfl ?_
    refine pr_ireturn dX8_hub_15 rfl ?_
    exact ⟨by simp [q_hub, hp], rfl⟩
  · obtain ⟨rfl, hi⟩ := vix_some (by omega) hp
    have lp : ∀ j l, l + j = K 39 → PR cX8_hub RX8 4 1 21 20 [some (pR 10008908 0), some (pI (nI i)), some (pI (nI (chs K true i l))), some (pI (nI l))] [] mem (pm_RX cX8_hub (some .int) (fun r' m' => r' = some (pI (q_hub K (nI i))) ∧ m' = mem)) := by
      intro j
      induction j with
      | zero =>
        intro l hj
        have e : l = K 39 := by omega
        subst e
        refine pr_iload_n 21 dX8_hub_20 rfl rfl rfl ?_
        refine pr_aload_n 22 dX8_hub_21 rfl rfl rfl ?_
        refine pr_getP d 25 dX8_hub_22 fX8_52 h1 rfl ?_
        refine pr_getI 28 dX8_hub_25 fX8_102 rfl ?_
        rw [hd.2.2.2.1]
        refine pr_icmp_ge 61 31 dX8_hub_28 rfl rfl (fun c_28 => ?_) (fun c_28 => absurd (Int32.le_refl _) (c_28))
        refine pr_iload_n 62 dX8_hub_61 rfl rfl rfl ?_
        refine pr_ireturn dX8_hub_62 rfl ?_
        exact ⟨by simp [q_hub, hp], rfl⟩
      | succ j ih =>
        intro l hj
        refine pr_iload_n 21 dX8_hub_20 rfl rfl rfl ?_
        refine pr_aload_n 22 dX8_hub_21 rfl rfl rfl ?_
        refine pr_getP d 25 dX8_hub_22 fX8_52 h1 rfl ?_
        refine pr_getI 28 dX8_hub_25 fX8_102 rfl ?_
        rw [hd.2.2.2.1]
        refine pr_icmp_ge 61 31 dX8_hub_28 rfl rfl (fun c_28 => absurd (c_28) (nI_ge (by omega) (by omega))) (fun c_28 => ?_)
        refine pr_iload_n 32 dX8_hub_31 rfl rfl rfl ?_
        refine pr_aload_n 33 dX8_hub_32 rfl rfl rfl ?_
        refine pr_getP d 36 dX8_hub_33 fX8_52 h1 rfl ?_
        refine pr_getR0 39 dX8_hub_36 fX8_170 rfl ?_
        refine pr_iload_n 40 dX8_hub_39 rfl rfl rfl ?_
        refine pr_iaload l 41 dX8_hub_40 rfl rfl rfl (by omega) rfl ?_
        rw [(hd.2.2.2.2.2.2.2.1 l (by omega)).1]
        refine pr_aload_n 42 dX8_hub_41 rfl rfl rfl ?_
        refine pr_getR0 45 dX8_hub_42 fX8_28 rfl ?_
        refine pr_getR0 48 dX8_hub_45 fX8_246 rfl ?_
        refine pr_iload_n 49 dX8_hub_48 rfl rfl rfl ?_
        first | refine pr_aaload0 (n := 16) l 20012608 50 dX8_hub_49 rfl rfl rfl rfl (by omega) rfl ?_ | refine pr_aaload (n := 16) l 20012608 50 dX8_hub_49 rfl rfl rfl rfl (by omega) rfl ?_
        refine pr_iload_n 51 dX8_hub_50 rfl rfl rfl ?_
        refine pr_iaload i 52 dX8_hub_51 rfl rfl rfl (by omega) rfl ?_
        rw [(hx l (by omega)).2.2.2 i (by omega)]
        refine pr_imul 53 dX8_hub_52 rfl ?_
        rw [nI_mulN]
        refine pr_iadd 54 dX8_hub_53 rfl ?_
        rw [nI_add]
        refine pr_istore_n 55 dX8_hub_54 rfl (pm_st_2 rfl rfl) rfl ?_
        refine pr_iinc 58 dX8_hub_55 rfl (by first | exact pm_inc _ | rfl) (pm_st_3 rfl rfl) rfl ?_
        refine pr_goto 20 dX8_hub_58 rfl ?_
        have := ih (l + 1) (by omega)
        rw [chs, sm, if_pos rfl] at this
        exact this
    refine pr_iload_n 1 dX8_hub_0 rfl rfl rfl ?_
    refine pr_aload_n 2 dX8_hub_1 rfl rfl rfl ?_
    refine pr_getP d 5 dX8_hub_2 fX8_52 h1 rfl ?_
    refine pr_getI 8 dX8_hub_5 fX8_96 rfl ?_
    rw [hd.2.1]
    refine pr_ivsD2 11 dX8_hub_8 sX8_129 mX8_isIn (sp_isInV _ (by omega)) ⟨Nat.le_of_ble_eq_true rfl, Nat.le_of_ble_eq_true rfl⟩ (Nat.le_of_ble_eq_true rfl) rfl ?_
    refine pr_if_ne 16 14 dX8_hub_11 rfl rfl (fun c_11 => ?_) (fun c_11 => absurd (c_11) (vb_s hp))
    refine pr_iconst (0) 17 dX8_hub_16 (by decide) rfl ?_
    refine pr_istore_n 18 dX8_hub_17 rfl (pm_st_2 rfl rfl) rfl ?_
    refine pr_iconst (0) 19 dX8_hub_18 (by decide) rfl ?_
    refine pr_istore_n 20 dX8_hub_19 rfl (pm_st_3 rfl rfl) rfl ?_
    exact lp (K 39) 0 (by omega)
set_option maxRecDepth 100000 in
theorem sp_X8_isDearer (h : IC mem d K) (hW : WF K) {a b : Nat} (ha : a < K 40) (hb : b < K 40) : Cd yX8_isDearer cX8_isDearer 7 (some .boolean) 0 0 [pR 10008908 0, pI (nI a), pI (nI b)] mem (some (pI (if gvn K (aw K) ai (K 39) b * pts K (aw K) ai (K 39) a < gvn K (aw K) ai (K 39) a * pts K (aw K) ai (K 39) b then 1 else 0))) mem := by
  have h16 := hW.2.2.2.2.1
  obtain ⟨h1, hd, -, -, -, -, hA⟩ := h
  have a1 := gvn_le hW (w := aw K) (lk := ai) (K 39) a
  have a2 := gvn_le hW (w := aw K) (lk := ai) (K 39) b
  have a3 := pts_le hW (WL0 hW) ha
  have a4 := pts_le hW (WL0 hW) hb
  have b1 : gvn K (aw K) ai (K 39) b * pts K (aw K) ai (K 39) a ≤ 319968 * 313632 := Nat.mul_le_mul a2 a3
  have b2 : gvn K (aw K) ai (K 39) a * pts K (aw K) ai (K 39) b ≤ 319968 * 313632 := Nat.mul_le_mul a1 a4
  refine Cl.of (own := RX8) rfl rfl (Nat.le_of_ble_eq_true rfl) rfl ?_; show PR _ _ _ _ _ _ [some _, some _, some _, none, none, none, none] _ _ _
  refine pr_aload_n 1 dX8_isDearer_0 rfl rfl rfl ?_
  refine pr_getR0 4 dX8_isDearer_1 fX8_35 rfl ?_
  refine pr_getR0 7 dX8_isDearer_4 fX8_213 rfl ?_
  refine pr_iload_n 8 dX8_isDearer_7 rfl rfl rfl ?_
  refine pr_iaload a 9 dX8_isDearer_8 rfl rfl rfl (by omega) rfl ?_
  rw [(hA.2.2.2.1 a ha).2.1]
  refine pr_i2l 10 dX8_isDearer_9 rfl ?_
  rw [nI_l (by omega)]
  refine pr_aload_n 11 dX8_isDearer_10 rfl rfl rfl ?_
  refine pr_getR0 14 dX8_isDearer_11 fX8_35 rfl ?_
  refine pr_getR0 17 dX8_isDearer_14 fX8_207 rfl ?_
  refine pr_iload_n 18 dX8_isDearer_17 rfl rfl rfl ?_
  refine pr_iaload b 19 dX8_isDearer_18 rfl rfl rfl (by omega) rfl ?_
  rw [(hA.2.2.1 b hb).1]
  refine pr_i2l 20 dX8_isDearer_19 rfl ?_
  rw [nI_l (by omega)]
  refine pr_lmul 21 dX8_isDearer_20 rfl ?_
  rw [lN_mul]
  refine pr_lstore_n 22 dX8_isDearer_21 rfl (pm_st2_3 rfl) rfl ?_
  refine pr_aload_n 23 dX8_isDearer_22 rfl rfl rfl ?_
  refine pr_getR0 26 dX8_isDearer_23 fX8_35 rfl ?_
  refine pr_getR0 29 dX8_isDearer_26 fX8_213 rfl ?_
  refine pr_iload_n 30 dX8_isDearer_29 rfl rfl rfl ?_
  refine pr_iaload b 31 dX8_isDearer_30 rfl rfl rfl (by omega) rfl ?_
  rw [(hA.2.2.2.1 b hb).2.1]
  refine pr_i2l 32 dX8_isDearer_31 rfl ?_
  rw [nI_l (by omega)]
  refine pr_aload_n 33 dX8_isDearer_32 rfl rfl rfl ?_
  refine pr_getR0 36 dX8_isDearer_33 fX8_35 rfl ?_
  refine pr_getR0 39 dX8_isDearer_36 fX8_207 rfl ?_
  refine pr_iload_n 40 dX8_isDearer_39 rfl rfl rfl ?_
  refine pr_iaload a 41 dX8_isDearer_40 rfl rfl rfl (by omega) rfl ?_
  rw [(hA.2.2.1 a ha).1]
  refine pr_i2l 42 dX8_isDearer_41 rfl ?_
  rw [nI_l (by omega)]
  refine pr_lmul 43 dX8_isDearer_42 rfl ?_
  rw [lN_mul]
  refine pr_lstore 45 dX8_isDearer_43 (pm_st2_5 rfl) rfl ?_
  refine pr_lload_n 46 dX8_isDearer_45 rfl rfl rfl ?_
  refine pr_lload 48 dX8_isDearer_46 rfl rfl ?_
  refine pr_lcmp 49 dX8_isDearer_48 rfl ?_
  refine pr_if_le 56 52 dX8_isDearer_49 rfl rfl (fun c_49 => ?_) (fun c_49 => ?_)
  · rw [lg_cmp_le, lN_leI (by omega) (by omega)] at c_49
    refine pr_iconst (0) 57 dX8_isDearer_56 (by decide) rfl ?_
    refine pr_zreturn dX8_isDearer_57 rfl (by first | exact Or.inl rfl | exact Or.inr rfl) ?_
    exact ⟨by rw [if_neg (by omega)], rfl⟩
  · rw [lg_cmp_le, lN_leI (by omega) (by omega)] at c_49
    refine pr_iconst (1) 53 dX8_isDearer_52 (by decide) rfl ?_
    refine pr_goto 57 dX8_isDearer_53 rfl ?_
    refine pr_zreturn dX8_isDearer_57 rfl (by first | exact Or.inl rfl | exact Or.inr rfl) ?_
    exact ⟨by rw [if_pos (by omega)], rfl⟩
set_option maxRecDepth 100000 in
theorem sp_X8_dearest (h : IC mem d K) (hW : WF K) : Cd yX8_dearest cX8_dearest 3 (some .int) 1 26 [pR 10008908 0] mem (some (pI (onI (drs K (K 40))))) mem := by
  have h16 := hW.2.2.2.2.1
  have hI := h
  obtain ⟨h1, hd, -, -, -, -, hA⟩ := h
  have lp : ∀ j t, t + j = K 40 → PR cX8_dearest RX8 3 1 26 4 [some (pR 10008908 0), some (pI (onI (drs K t))), some (pI (nI t))] [] mem (pm_RX cX8_dearest (some .int) (fun r' m' => r' = some (pI (onI (drs K (K 40)))) ∧ m' = mem)) := by
    intro j
    induction j with
    | zero =>
      intro t hj
      have e : t = K 40 := by omega
      subst e
      refine pr_iload_n 5 dX8_dearest_4 rfl rfl rfl ?_
      refine pr_aload_n 6 dX8_dearest_5 rfl rfl rfl ?_
      refine pr_getP d 9 dX8_dearest_6 fX8_52 h1 rfl ?_
      refine pr_getI 12 dX8_dearest_9 fX8_105 rfl ?_
      rw [hd.2.2.2.2.1]
      refine pr_icmp_ge 51 15 dX8_dearest_12 rfl rfl (fun c_12 => ?_) (fun c_12 => absurd (Int32.le_refl _) (c_12))
      refine pr_iload_n 52 dX8_dearest_51 rfl rfl rfl ?_
      refine pr_ireturn dX8_dearest_52 rfl ?_
      exact ⟨rfl, rfl⟩
    | succ j ih =>
      intro t hj
      have ht : t < K 40 := by omega
      have hI2 := ih (t + 1) (by omega)
      by_cases hid : idl K (aw K) ai (K 39) t = true
      · rw [drs, if_pos hid] at hI2
        refine pr_iload_n 5 dX8_dearest_4 rfl rfl rfl ?_
        refine pr_aload_n 6 dX8_dearest_5 rfl rfl rfl ?_
        refine pr_getP d 9 dX8_dearest_6 fX8_52 h1 rfl ?_
        refine pr_getI 12 dX8_dearest_9 fX8_105 rfl ?_
        rw [hd.2.2.2.2.1]
        refine pr_icmp_ge 51 15 dX8_dearest_12 rfl rfl (fun c_12 => absurd (c_12) (nI_ge (by omega) (by omega))) (fun c_12 => ?_)
        refine pr_aload_n 16 dX8_dearest_15 rfl rfl rfl ?_
        refine pr_getR0 19 dX8_dearest_16 fX8_35 rfl ?_
        refine pr_iload_n 20 dX8_dearest_19 rfl rfl rfl ?_
        refine pr_invD1 23 dX8_dearest_20 vX8_249 mX2_isIdle (hA.2.2.1.idle hW (WL0 hW) ht) ⟨Nat.le_of_ble_eq_true rfl, Nat.le_of_ble_eq_true rfl⟩ (Nat.le_of_ble_eq_true rfl) rfl ?_
        refine pr_if_eq 29 26 dX8_dearest_23 rfl rfl (fun c_23 => absurd (c_23) (by rw [if_pos hid]; decide)) (fun c_23 => ?_)
        refine pr_goto 45 dX8_dearest_26 rfl ?_
        refine pr_iinc 48 dX8_dearest_45 rfl (by first | exact pm_inc _ | rfl) (pm_st_2 rfl rfl) rfl ?_
        refine pr_goto 4 dX8_dearest_48 rfl ?_
        exact hI2
      · rw [drs, if_neg hid] at hI2
        rcases hb : drs K t with _ | b
        · rw [hb] at hI2
          refine pr_iload_n 5 dX8_dearest_4 rfl rfl rfl ?_
          refine pr_aload_n 6 dX8_dearest_5 rfl rfl rfl ?_
          refine pr_getP d 9 dX8_dearest_6 fX8_52 h1 rfl ?_
          refine pr_getI 12 dX8_dearest_9 fX8_105 rfl ?_
          rw [hd.2.2.2.2.1]
          refine pr_icmp_ge 51 15 dX8_dearest_12 rfl rfl (fun c_12 => absurd (c_12) (nI_ge (by omega) (by omega))) (fun c_12 => ?_)
          refine pr_aload_n 16 dX8_dearest_15 rfl rfl rfl ?_
          refine pr_getR0 19 dX8_dearest_16 fX8_35 rfl ?_
          refine pr_iload_n 20 dX8_dearest_19 rfl rfl rfl ?_
          refine pr_invD1 23 dX8_dearest_20 vX8_249 mX2_isIdle (hA.2.2.1.idle hW (WL0 hW) ht) ⟨Nat.le_of_ble_eq_true rfl, Nat.le_of_ble_eq_true rfl⟩ (Nat.le_of_ble_eq_true rfl) rfl ?_
          refine pr_if_eq 29 26 dX8_dearest_23 rfl rfl (fun c_23 => ?_) (fun c_23 => absurd (by rw [if_neg hid]) (c_23))
          refine pr_iload_n 30 dX8_dearest_29 rfl rfl rfl ?_
          refine pr_iconst (-1) 31 dX8_dearest_30 (by decide) rfl ?_
          refine pr_icmp_eq 43 34 dX8_dearest_31 rfl rfl (fun c_31 => ?_) (fun c_31 => absurd (rfl) (c_31))
          refine pr_iload_n 44 dX8_dearest_43 rfl rfl rfl ?_
          refine pr_istore_n 45 dX8_dearest_44 rfl (pm_st_1 rfl rfl) rfl ?_
          refine pr_iinc 48 dX8_dearest_45 rfl (by first | exact pm_inc _ | rfl) (pm_st_2 rfl rfl) rfl ?_
          refine pr_goto 4 dX8_dearest_48 rfl ?_
          exact hI2
        · rw [hb] at hI2
          have hbt := drs_lt hb
          dsimp only at hI2
          refine pr_iload_n 5 dX8_dearest_4 rfl rfl rfl ?_
          refine pr_aload_n 6 dX8_dearest_5 rfl rfl rfl ?_
          refine pr_getP d 9 dX8_dearest_6 fX8_52 h1 rfl ?_
          refine pr_getI 12 dX8_dearest_9 fX8_105 rfl ?_
          rw [hd.2.2.2.2.1]
          refine pr_icmp_ge 51 15 dX8_dearest_12 rfl rfl (fun c_12 => absurd (c_12) (nI_ge (by omega) (by omega))) (fun c_12 => ?_)
          refine pr_aload_n 16 dX8_dearest_15 rfl rfl rfl ?_
          refine pr_getR0 19 dX8_dearest_16 fX8_35 rfl ?_
          refine pr_iload_n 20 dX8_dearest_19 rfl rfl rfl ?_
          refine pr_invD1 23 dX8_dearest_20 vX8_249 mX2_isIdle (hA.2.2.1.idle hW (WL0 hW) ht) ⟨Nat.le_of_ble_eq_true rfl, Nat.le_of_ble_eq_true rfl⟩ (Nat.le_of_ble_eq_true rfl) rfl ?_
          refine pr_if_eq 29 26 dX8_dearest_23 rfl rfl (fun c_23 => ?_) (fun c_23 => absurd (by rw [if_neg hid]) (c_23))
          refine pr_iload_n 30 dX8_dearest_29 rfl rfl rfl ?_
          refine pr_iconst (-1) 31 dX8_dearest_30 (by decide) rfl ?_
          refine pr_icmp_eq 43 34 dX8_dearest_31 rfl rfl (fun c_31 => absurd (c_31) (nI_nm (by omega))) (fun c_31 => ?_)
          refine pr_aload_n 35 dX8_dearest_34 rfl rfl rfl ?_
          refine pr_iload_n 36 dX8_dearest_35 rfl rfl rfl ?_
          refine pr_iload_n 37 dX8_dearest_36 rfl rfl rfl ?_
          refine pr_invD2 40 dX8_dearest_37 vX8_253 mX8_isDearer (sp_X8_isDearer hI hW ht (by omega)) ⟨Nat.le_of_ble_eq_true rfl, Nat.le_of_ble_eq_true rfl⟩ (Nat.le_of_ble_eq_true rfl) rfl ?_
          refine pr_if_eq 45 43 dX8_dearest_40 rfl rfl (fun c_40 => ?_) (fun c_40 => ?_)
          · rw [if_neg (fun z => by rw [if_pos z] at c_40; exact absurd c_40 (by decide))] at hI2
            refine pr_iinc 48 dX8_dearest_45 rfl (by first | exact pm_inc _ | rfl) (pm_st_2 rfl rfl) rfl ?_
            refine pr_goto 4 dX8_dearest_48 rfl ?_
            exact hI2
          · rw [if_pos (Decidable.byContradiction (fun z => c_40 (by rw [if_neg z])))] at hI2
            refine pr_iload_n 44 dX8_dearest_43 rfl rfl rfl ?_
            refine pr_istore_n 45 dX8_dearest_44 rfl (pm_st_1 rfl rfl) rfl ?_
            refine pr_iinc 48 dX8_dearest_45 rfl (by first | exact pm_inc _ | rfl) (pm_st_2 rfl rfl) rfl ?_
            refine pr_goto 4 dX8_dearest_48 rfl ?_
            exact hI2
  refine Cl.of (own := RX8) rfl rfl (Nat.le_of_ble_eq_true rfl) rfl ?_; show PR _ _ _ _ _ _ [some _, none, none] _ _ _
  refine pr_iconst (-1) 1 dX8_dearest_0 (by decide) rfl ?_
  refine pr_istore_n 2 dX8_dearest_1 rfl (pm_st_1 rfl rfl) rfl ?_
  refine pr_iconst (0) 3 dX8_dearest_2 (by decide) rfl ?_
  refine pr_istore_n 4 dX8_dearest_3 rfl (pm_st_2 rfl rfl) rfl ?_
  exact lp (K 40) 0 (by omega)
theorem hbs_bit {K : Nat → Nat} (q : Nat) : ∀ n, (hbs K n).testBit q = decide (q < n ∧ 0 < chs K false q (K 39))
  | 0 => by simp [hbs]
  | n + 1 => by
    unfold hbs
    have ih := hbs_bit (K := K) q n
    by_cases e : q = n
    · subst e
      by_cases z : 0 < chs K false q (K 39)
      · rw [if_pos z, Nat.testBit_or, ih, Nat.testBit_two_pow]; simp [z]
      · rw [if_neg z, ih]; simp [z]
    · have e2 : q < n + 1 ↔ q < n := by omega
      split
      · rw [Nat.testBit_or, ih, Nat.testBit_two_pow]
        simp [show ¬ n = q from fun z => e z.symm, e2]
      · rw [ih]
        simp [e2]
set_option maxRecDepth 100000 in
theorem sp_X8_hubBits (h : IC mem d K) (hW : WF K) : Cd yX8_hubBits cX8_hubBits 4 (some .int) 0 0 [pR 10008908 0] mem (some (pI (nI (hbs K (K 37))))) mem := by
  have h12 := hW.2.1
  have h16 := hW.2.2.2.2.1
  have hn16 := hW.2.2.2.1
  obtain ⟨h1, hd, -, -, hx, -⟩ := h
  have lp : ∀ j l B, l + j = K 39 → (∀ q, Nat.testBit B q = decide (q < K 37 ∧ 0 < chs K false q l)) → ∀ o : Option pm_v, PR cX8_hubBits RX8 4 0 0 4 [some (pR 10008908 0), some (pI (nI B)), some (pI (nI l)), o] [] mem (pm_RX cX8_hubBits (some .int) (fun r' m' => r' = some (pI (nI (hbs K (K 37)))) ∧ m' = mem)) := by
    intro j
    induction j with
    | zero =>
      intro l B hj hB o
      have e : l = K 39 := by omega
      subst e
      have eB : B = hbs K (K 37) := Nat.eq_of_testBit_eq (fun q => by rw [hB, hbs_bit])
      subst eB
      refine pr_iload_n 5 dX8_hubBits_4 rfl rfl rfl ?_
      refine pr_aload_n 6 dX8_hubBits_5 rfl rfl rfl ?_
      refine pr_getP d 9 dX8_hubBits_6 fX8_52 h1 rfl ?_
      refine pr_getI 12 dX8_hubBits_9 fX8_102 rfl ?_
      rw [hd.2.2.2.1]
      refine pr_icmp_ge 60 15 dX8_hubBits_12 rfl rfl (fun c_12 => ?_) (fun c_12 => absurd (Int32.le_refl _) (c_12))
      refine pr_iload_n 61 dX8_hubBits_60 rfl rfl rfl ?_
      refine pr_ireturn dX8_hubBits_61 rfl ?_
      exact ⟨rfl, rfl⟩
    | succ j ih =>
      intro l B hj hB o
      have lp2 : ∀ i p B, p + i = K 37 → (∀ q, Nat.testBit B q = decide (q < K 37 ∧ (0 < chs K false q l ∨ (q < p ∧ 0 < ch K l q (K 40))))) → PR cX8_hubBits RX8 4 0 0 17 [some (pR 10008908 0), some (pI (nI B)), some (pI (nI l)), some (pI (nI p))] [] mem (pm_RX cX8_hubBits (some .int) (fun r' m' => r' = some (pI (nI (hbs K (K 37)))) ∧ m' = mem)) := by
        intro i
        induction i with
        | zero =>
          intro p B hi hB
          have e : p = K 37 := by omega
          subst e
          refine pr_iload_n 18 dX8_hubBits_17 rfl rfl rfl ?_
          refine pr_aload_n 19 dX8_hubBits_18 rfl rfl rfl ?_
          refine pr_getP d 22 dX8_hubBits_19 fX8_52 h1 rfl ?_
          refine pr_getI 25 dX8_hubBits_22 fX8_96 rfl ?_
          rw [hd.2.1]
          refine pr_icmp_ge 54 28 dX8_hubBits_25 rfl rfl (fun c_25 => ?_) (fun c_25 => absurd (Int32.le_refl _) (c_25))
          refine pr_iinc 57 dX8_hubBits_54 rfl (by first | exact pm_inc _ | rfl) (pm_st_2 rfl rfl) rfl ?_
          refine pr_goto 4 dX8_hubBits_57 rfl ?_
          refine ih (l + 1) B (by omega) (fun q => ?_) _
          rw [hB, chs, chs, sm]
          congr 1
          apply propext
          simp
          omega
        | succ i ih2 =>
          intro p B hi hB
          have hc := ch_le K l p (K 40)
          refine pr_iload_n 18 dX8_hubBits_17 rfl rfl rfl ?_
          refine pr_aload_n 19 dX8_hubBits_18 rfl rfl rfl ?_
          refine pr_getP d 22 dX8_hubBits_19 fX8_52 h1 rfl ?_
          refine pr_getI 25 dX8_hubBits_22 fX8_96 rfl ?_
          rw [hd.2.1]
          refine pr_icmp_ge 54 28 dX8_hubBits_25 rfl rfl (fun c_25 => absurd (c_25) (nI_ge (by omega) (by omega))) (fun c_25 => ?_)
          refine pr_aload_n 29 dX8_hubBits_28 rfl rfl rfl ?_
          refine pr_getR0 32 dX8_hubBits_29 fX8_28 rfl ?_
          refine pr_getR0 35 dX8_hubBits_32 fX8_246 rfl ?_
          refine pr_iload_n 36 dX8_hubBits_35 rfl rfl rfl ?_
          first | refine pr_aaload0 (n := 16) l 20012608 37 dX8_hubBits_36 rfl rfl rfl rfl (by omega) rfl ?_ | refine pr_aaload (n := 16) l 20012608 37 dX8_hubBits_36 rfl rfl rfl rfl (by omega) rfl ?_
          refine pr_iload_n 38 dX8_hubBits_37 rfl rfl rfl ?_
          refine pr_iaload p 39 dX8_hubBits_38 rfl rfl rfl (by omega) rfl ?_
          rw [(hx l (by omega)).2.2.2 p (by omega)]
          refine pr_if_le 48 42 dX8_hubBits_39 rfl rfl (fun c_39 => ?_) (fun c_39 => ?_)
          · have z : ch K l p (K 40) = 0 := by
              rcases Nat.eq_zero_or_pos (ch K l p (K 40)) with y | y
              · exact y
              · exact absurd c_39 (nI_nle y (by omega))
            refine pr_iinc 51 dX8_hubBits_48 rfl (by first | exact pm_inc _ | rfl) (pm_st_3 rfl rfl) rfl ?_
            refine pr_goto 17 dX8_hubBits_51 rfl ?_
            refine ih2 (p + 1) B (by omega) (fun q => ?_)
            rw [hB]
            congr 1
            apply propext
            rcases Nat.lt_trichotomy q p with y | y | y
            · simp [y, show q < p + 1 by omega]
            · subst y; simp [z]
            · simp [show ¬ q < p by omega, show ¬ q < p + 1 by omega]
          · have z : 0 < ch K l p (K 40) := by
              rcases Nat.eq_zero_or_pos (ch K l p (K 40)) with y | y
              · exact absurd (by rw [y]; decide) c_39
              · exact y
            refine pr_iload_n 43 dX8_hubBits_42 rfl rfl rfl ?_
            refine pr_iconst (1) 44 dX8_hubBits_43 (by decide) rfl ?_
            refine pr_iload_n 45 dX8_hubBits_44 rfl rfl rfl ?_
            refine pr_ishl 46 dX8_hubBits_45 rfl ?_
            rw [nI_shl1 p (by omega)]
            refine pr_ior 47 dX8_hubBits_46 rfl ?_
            rw [nI_orN]
            refine pr_istore_n 48 dX8_hubBits_47 rfl (pm_st_1 rfl rfl) rfl ?_
            refine pr_iinc 51 dX8_hubBits_48 rfl (by first | exact pm_inc _ | rfl) (pm_st_3 rfl rfl) rfl ?_
            refine pr_goto 17 dX8_hubBits_51 rfl ?_
            refine ih2 (p + 1) _ (by omega) (fun q => ?_)
            rw [Nat.testBit_or, hB, Nat.testBit_two_pow]
            rcases Nat.lt_trichotomy q p with y | y | y
            · simp [y, show q < p + 1 by omega, show ¬ p = q by omega]
            · subst y; simp [z, show q < K 37 by omega]
            · simp [show ¬ q < p by omega, show ¬ q < p + 1 by omega, show ¬ p = q by omega]
      refine pr_iload_n 5 dX8_hubBits_4 rfl rfl rfl ?_
      refine pr_aload_n 6 dX8_hubBits_5 rfl rfl rfl ?_
      refine pr_getP d 9 dX8_hubBits_6 fX8_52 h1 rfl ?_
      refine pr_getI 12 dX8_hubBits_9 fX8_102 rfl ?_
      rw [hd.2.2.2.1]
      refine pr_icmp_ge 60 15 dX8_hubBits_12 rfl rfl (fun c_12 => absurd (c_12) (nI_ge (by omega) (by omega))) (fun c_12 => ?_)
      refine pr_iconst (0) 16 dX8_hubBits_15 (by decide) rfl ?_
      refine pr_istore_n 17 dX8_hubBits_16 rfl (pm_st_3 rfl rfl) rfl ?_
      exact lp2 (K 37) 0 B (by omega) (fun q => by rw [hB]; simp)
  refine Cl.of (own := RX8) rfl rfl (Nat.le_of_ble_eq_true rfl) rfl ?_; show PR _ _ _ _ _ _ [some _, none, none, none] _ _ _
  refine pr_iconst (0) 1 dX8_hubBits_0 (by decide) rfl ?_
  refine pr_istore_n 2 dX8_hubBits_1 rfl (pm_st_1 rfl rfl) rfl ?_
  refine pr_iconst (0) 3 dX8_hubBits_2 (by decide) rfl ?_
  refine pr_istore_n 4 dX8_hubBits_3 rfl (pm_st_2 rfl rfl) rfl ?_
  exact lp (K 39) 0 0 (by omega) (fun q => by simp [chs, sm]) _
set_option maxRecDepth 100000 in
theorem sp_X8_now (h : IC mem d K) (hW : WF K) {sn tp : Nat} (hs : mem.1 10001901 0 3 = nI sn) (ht : mem.1 10007907 0 1 = nI tp) (w : Int32) : Cd yX8_now cX8_now 2 (some .int) 1 23 [pR 10008908 0, pI w] mem (some (pI (q_now K sn tp w))) mem := by
  have hI := h
  obtain ⟨h1, hd, -, hG, -, -, hA⟩ := h
  refine Cl.of (own := RX8) rfl rfl (Nat.le_of_ble_eq_true rfl) rfl ?_; show PR _ _ _ _ _ _ [some _, some _] _ _ _
  refine pr_iload_n 1 dX8_now_0 rfl rfl rfl ?_
  rcases sw_c w 11 (by omega) with h_sw | ⟨c_sw, h_sw, rfl⟩
  · refine pr_table 177 dX8_now_1 (Or.inl ⟨h_sw, rfl⟩) ?_
    refine pr_iconst (-1) 178 dX8_now_177 (by decide) rfl ?_
    refine pr_ireturn dX8_now_178 rfl ?_
    exact ⟨by simp [q_now, vix_out (n := 11) h_sw], rfl⟩
  · rcases (by omega : c_sw = 0 ∨ c_sw = 1 ∨ c_sw = 2 ∨ c_sw = 3 ∨ c_sw = 4 ∨ c_sw = 5 ∨ c_sw = 6 ∨ c_sw = 7 ∨ c_sw = 8 ∨ c_sw = 9 ∨ c_sw = 10 ∨ c_sw = 11) with rfl | rfl | rfl | rfl | rfl | rfl | rfl | rfl | rfl | rfl | rfl | rfl
    · refine pr_table 64 dX8_now_1 (Or.inr ⟨by decide, by decide, 63, rfl, rfl⟩) ?_
      refine pr_aload_n 65 dX8_now_64 rfl rfl rfl ?_
      refine pr_getP d 68 dX8_now_65 fX8_52 h1 rfl ?_
      refine pr_getI 71 dX8_now_68 fX8_93 rfl ?_
      rw [hd.1]
      refine pr_ireturn dX8_now_71 rfl ?_
      exact ⟨by simp [q_now, vix_nI], rfl⟩
    · refine pr_table 72 dX8_now_1 (Or.inr ⟨by decide, by decide, 71, rfl, rfl⟩) ?_
      refine pr_aload_n 73 dX8_now_72 rfl rfl rfl ?_
      refine pr_getP d 76 dX8_now_73 fX8_52 h1 rfl ?_
      refine pr_getI 79 dX8_now_76 fX8_96 rfl ?_
      rw [hd.2.1]
      refine pr_ireturn dX8_now_79 rfl ?_
      exact ⟨by simp [q_now, vix_nI], rfl⟩
    · refine pr_table 80 dX8_now_1 (Or.inr ⟨by decide, by decide, 79, rfl, rfl⟩) ?_
      refine pr_aload_n 81 dX8_now_80 rfl rfl rfl ?_
      refine pr_getP d 84 dX8_now_81 fX8_52 h1 rfl ?_
      refine pr_getI 87 dX8_now_84 fX8_99 rfl ?_
      rw [hd.2.2.1]
      refine pr_ireturn dX8_now_87 rfl ?_
      exact ⟨by simp [q_now, vix_nI], rfl⟩
    · refine pr_table 88 dX8_now_1 (Or.inr ⟨by decide, by decide, 87, rfl, rfl⟩) ?_
      refine pr_aload_n 89 dX8_now_88 rfl rfl rfl ?_
      refine pr_getP d 92 dX8_now_89 fX8_52 h1 rfl ?_
      refine pr_getI 95 dX8_now_92 fX8_102 rfl ?_
      rw [hd.2.2.2.1]
      refine pr_ireturn dX8_now_95 rfl ?_
      exact ⟨by simp [q_now, vix_nI], rfl⟩
    · refine pr_table 96 dX8_now_1 (Or.inr ⟨by decide, by decide, 95, rfl, rfl⟩) ?_
      refine pr_aload_n 97 dX8_now_96 rfl rfl rfl ?_
      refine pr_getP d 100 dX8_now_97 fX8_52 h1 rfl ?_
      refine pr_getI 103 dX8_now_100 fX8_105 rfl ?_
      rw [hd.2.2.2.2.1]
      refine pr_ireturn dX8_now_103 rfl ?_
      exact ⟨by simp [q_now, vix_nI], rfl⟩
    · refine pr_table 104 dX8_now_1 (Or.inr ⟨by decide, by decide, 103, rfl, rfl⟩) ?_
      refine pr_aload_n 105 dX8_now_104 rfl rfl rfl ?_
      refine pr_getP d 108 dX8_now_105 fX8_52 h1 rfl ?_
      refine pr_getR0 111 dX8_now_108 fX8_108 rfl ?_
      refine pr_aload_n 112 dX8_now_111 rfl rfl rfl ?_
      refine pr_getP d 115 dX8_now_112 fX8_52 h1 rfl ?_
      refine pr_getI 118 dX8_now_115 fX8_99 rfl ?_
      rw [hd.2.2.1]
      refine pr_ivsD2 121 dX8_now_118 sX8_112 mX8_sumOf (sp_sumOf_bought (i := d) (n := K 38) (f := fun k => K k) (fun k hk => (hd.2.2.2.2.2.2.1 k hk).2) hW.2.2.1) ⟨Nat.le_of_ble_eq_true rfl, Nat.le_of_ble_eq_true rfl⟩ (Nat.le_of_ble_eq_true rfl) rfl ?_
      refine pr_ireturn dX8_now_121 rfl ?_
      exact ⟨by simp [q_now, vix_nI], rfl⟩
    · refine pr_table 122 dX8_now_1 (Or.inr ⟨by decide, by decide, 121, rfl, rfl⟩) ?_
      refine pr_aload_n 123 dX8_now_122 rfl rfl rfl ?_
      refine pr_getR0 126 dX8_now_123 fX8_35 rfl ?_
      refine pr_getR0 129 dX8_now_126 fX8_116 rfl ?_
      refine pr_aload_n 130 dX8_now_129 rfl rfl rfl ?_
      refine pr_getP d 133 dX8_now_130 fX8_52 h1 rfl ?_
      refine pr_getI 136 dX8_now_133 fX8_102 rfl ?_
      rw [hd.2.2.2.1]
      refine pr_ivsD2 139 dX8_now_136 sX8_112 mX8_sumOf (sp_sumOf_total (i := 0) (n := K 39) (f := shr K (aw K) ai (K 39)) (fun k hk => (hA.2.2.2.2.2 k hk).2) hW.2.2.2.1) ⟨Nat.le_of_ble_eq_true rfl, Nat.le_of_ble_eq_true rfl⟩ (Nat.le_of_ble_eq_true rfl) rfl ?_
      refine pr_ireturn dX8_now_139 rfl ?_
      exact ⟨by simp [q_now, vix_nI], rfl⟩
    · refine pr_table 140 dX8_now_1 (Or.inr ⟨by decide, by decide, 139, rfl, rfl⟩) ?_
      refine pr_aload_n 141 dX8_now_140 rfl rfl rfl ?_
      refine pr_getR0 144 dX8_now_141 fX8_35 rfl ?_
      refine pr_getI 147 dX8_now_144 fX8_119 rfl ?_
      rw [hA.2.2.2.2.1]
      refine pr_ireturn dX8_now_147 rfl ?_
      exact ⟨by simp [q_now, vix_nI], rfl⟩
    · refine pr_table 148 dX8_now_1 (Or.inr ⟨by decide, by decide, 147, rfl, rfl⟩) ?_
      refine pr_aload_n 149 dX8_now_148 rfl rfl rfl ?_
      refine pr_invD0 152 dX8_now_149 vX8_122 mX8_hubBits (sp_X8_hubBits hI hW) ⟨Nat.le_of_ble_eq_true rfl, Nat.le_of_ble_eq_true rfl⟩ (Nat.le_of_ble_eq_true rfl) rfl ?_
      refine pr_ireturn dX8_now_152 rfl ?_
      exact ⟨by simp [q_now, vix_nI], rfl⟩
    · refine pr_table 153 dX8_now_1 (Or.inr ⟨by decide, by decide, 152, rfl, rfl⟩) ?_
      refine pr_aload_n 154 dX8_now_153 rfl rfl rfl ?_
      refine pr_getR0 157 dX8_now_154 fX8_28 rfl ?_
      refine pr_getI 160 dX8_now_157 fX8_126 rfl ?_
      rw [hG.1]
      refine pr_ireturn dX8_now_160 rfl ?_
      exact ⟨by simp [q_now, vix_nI], rfl⟩
    · refine pr_table 161 dX8_now_1 (Or.inr ⟨by decide, by decide, 160, rfl, rfl⟩) ?_
      refine pr_aload_n 162 dX8_now_161 rfl rfl rfl ?_
      refine pr_getR0 165 dX8_now_162 fX8_45 rfl ?_
      refine pr_getI 168 dX8_now_165 fX8_80 rfl ?_
      rw [hs]
      refine pr_ireturn dX8_now_168 rfl ?_
      exact ⟨by simp [q_now, vix_nI], rfl⟩
    · refine pr_table 169 dX8_now_1 (Or.inr ⟨by decide, by decide, 168, rfl, rfl⟩) ?_
      refine pr_aload_n 170 dX8_now_169 rfl rfl rfl ?_
      refine pr_getR0 173 dX8_now_170 fX8_12 rfl ?_
      refine pr_getI 176 dX8_now_173 fX8_63 rfl ?_
      rw [ht]
      refine pr_ireturn dX8_now_176 rfl ?_
      exact ⟨by simp [q_now, vix_nI], rfl⟩
set_option maxRecDepth 100000 in
theorem sp_X8_truck (h : IC mem d K) (hW : WF K) (k w : Int32) : Cd yX8_truck cX8_truck 3 (some .int) 1 24 [pR 10008908 0, pI k, pI w] mem (some (pI (q_truck K k w))) mem := by
  have hI := h
  have h4 := hW.2.2.1
  obtain ⟨h1, hd, hr, hG, -, -, hA⟩ := h
  refine Cl.of (own := RX8) rfl rfl (Nat.le_of_ble_eq_true rfl) rfl ?_; show PR _ _ _ _ _ _ [some _, some _, some _] _ _ _
  rcases hk : vix k (K 38) with _ | i
  · refine pr_iload_n 1 dX8_truck_0 rfl rfl rfl ?_
    refine pr_aload_n 2 dX8_truck_1 rfl rfl rfl ?_
    refine pr_getP d 5 dX8_truck_2 fX8_52 h1 rfl ?_
    refine pr_getI 8 dX8_truck_5 fX8_99 rfl ?_
    rw [hd.2.2.1]
    refine pr_ivsD2 11 dX8_truck_8 sX8_129 mX8_isIn (sp_isInV _ (by omega)) ⟨Nat.le_of_ble_eq_true rfl, Nat.le_of_ble_eq_true rfl⟩ (Nat.le_of_ble_eq_true rfl) rfl ?_
    refine pr_if_ne 16 14 dX8_truck_11 rfl rfl (fun c_11 => absurd (vb_n hk) (c_11)) (fun c_11 => ?_)
    refine pr_iconst (-1) 15 dX8_truck_14 (by decide) rfl ?_
    refine pr_ireturn dX8_truck_15 rfl ?_
    exact ⟨by simp [q_truck, hk], rfl⟩
  · obtain ⟨rfl, hi⟩ := vix_some (by omega) hk
    refine pr_iload_n 1 dX8_truck_0 rfl rfl rfl ?_
    refine pr_aload_n 2 dX8_truck_1 rfl rfl rfl ?_
    refine pr_getP d 5 dX8_truck_2 fX8_52 h1 rfl ?_
    refine pr_getI 8 dX8_truck_5 fX8_99 rfl ?_
    rw [hd.2.2.1]
    refine pr_ivsD2 11 dX8_truck_8 sX8_129 mX8_isIn (sp_isInV _ (by omega)) ⟨Nat.le_of_ble_eq_true rfl, Nat.le_of_ble_eq_true rfl⟩ (Nat.le_of_ble_eq_true rfl) rfl ?_
    refine pr_if_ne 16 14 dX8_truck_11 rfl rfl (fun c_11 => ?_) (fun c_11 => absurd (c_11) (vb_s hk))
    refine pr_iload_n 17 dX8_truck_16 rfl rfl rfl ?_
    rcases sw_c w 7 (by omega) with h_sw | ⟨c_sw, h_sw, rfl⟩
    · refine pr_table 144 dX8_truck_17 (Or.inl ⟨h_sw, rfl⟩) ?_
      refine pr_iconst (-1) 145 dX8_truck_144 (by decide) rfl ?_
      refine pr_ireturn dX8_truck_145 rfl ?_
      exact ⟨by simp [q_truck, hk, vix_out (n := 7) h_sw], rfl⟩
    · rcases (by omega : c_sw = 0 ∨ c_sw = 1 ∨ c_sw = 2 ∨ c_sw = 3 ∨ c_sw = 4 ∨ c_sw = 5 ∨ c_sw = 6 ∨ c_sw = 7) with rfl | rfl | rfl | rfl | rfl | rfl | rfl | rfl
      · refine pr_table 64 dX8_truck_17 (Or.inr ⟨by decide, by decide, 47, rfl, rfl⟩) ?_
        refine pr_aload_n 65 dX8_truck_64 rfl rfl rfl ?_
        refine pr_getP d 68 dX8_truck_65 fX8_52 h1 rfl ?_
        refine pr_getR0 71 dX8_truck_68 fX8_137 rfl ?_
        refine pr_iload_n 72 dX8_truck_71 rfl rfl rfl ?_
        refine pr_iaload i 73 dX8_truck_72 rfl rfl rfl (by omega) rfl ?_
        rw [(hd.2.2.2.2.2.2.1 i hi).1]
        refine pr_ireturn dX8_truck_73 rfl ?_
        exact ⟨by simp [q_truck, hk, vix_nI], rfl⟩
      · refine pr_table 74 dX8_truck_17 (Or.inr ⟨by decide, by decide, 57, rfl, rfl⟩) ?_
        refine pr_aload_n 75 dX8_truck_74 rfl rfl rfl ?_
        refine pr_getP d 78 dX8_truck_75 fX8_52 h1 rfl ?_
        refine pr_getR0 81 dX8_truck_78 fX8_108 rfl ?_
        refine pr_iload_n 82 dX8_truck_81 rfl rfl rfl ?_
        refine pr_iaload i 83 dX8_truck_82 rfl rfl rfl (by omega) rfl ?_
        rw [(hd.2.2.2.2.2.2.1 i hi).2]
        refine pr_ireturn dX8_truck_83 rfl ?_
        exact ⟨by simp [q_truck, hk, vix_nI], rfl⟩
      · refine pr_table 84 dX8_truck_17 (Or.inr ⟨by decide, by decide, 67, rfl, rfl⟩) ?_
        refine pr_aload_n 85 dX8_truck_84 rfl rfl rfl ?_
        refine pr_iload_n 86 dX8_truck_85 rfl rfl rfl ?_
        refine pr_invD1 89 dX8_truck_86 vX8_140 mX8_tripBits (sp_X8_tripBits hI hW (by omega)) ⟨Nat.le_of_ble_eq_true rfl, Nat.le_of_ble_eq_true rfl⟩ (Nat.le_of_ble_eq_true rfl) rfl ?_
        refine pr_ireturn dX8_truck_89 rfl ?_
        exact ⟨by simp [q_truck, hk, vix_nI], rfl⟩
      · refine pr_table 90 dX8_truck_17 (Or.inr ⟨by decide, by decide, 73, rfl, rfl⟩) ?_
        refine pr_aload_n 91 dX8_truck_90 rfl rfl rfl ?_
        refine pr_iload_n 92 dX8_truck_91 rfl rfl rfl ?_
        refine pr_aload_n 93 dX8_truck_92 rfl rfl rfl ?_
        refine pr_getR0 96 dX8_truck_93 fX8_28 rfl ?_
        refine pr_getR0 99 dX8_truck_96 fX8_144 rfl ?_
        refine pr_invD2 102 dX8_truck_99 vX8_147 mX8_sumOverTrips (sp_sumOver_long hI hW (by omega) (f := fun t => K (102 + 6 * t)) (fun t ht => (hr.1 t ht).1)) ⟨Nat.le_of_ble_eq_true rfl, Nat.le_of_ble_eq_true rfl⟩ (Nat.le_of_ble_eq_true rfl) rfl ?_
        refine pr_ireturn dX8_truck_102 rfl ?_
        exact ⟨by simp [q_truck, hk, vix_nI], rfl⟩
      · refine pr_table 103 dX8_truck_17 (Or.inr ⟨by decide, by decide, 86, rfl, rfl⟩) ?_
        refine pr_aload_n 104 dX8_truck_103 rfl rfl rfl ?_
        refine pr_iload_n 105 dX8_truck_104 rfl rfl rfl ?_
        refine pr_aload_n 106 dX8_truck_105 rfl rfl rfl ?_
        refine pr_getR0 109 dX8_truck_106 fX8_28 rfl ?_
        refine pr_getR0 112 dX8_truck_109 fX8_151 rfl ?_
        refine pr_invD2 115 dX8_truck_112 vX8_147 mX8_sumOverTrips (sp_sumOver_empty hI hW (by omega) (f := fun t => K (103 + 6 * t)) (fun t ht => (hr.1 t ht).2.1)) ⟨Nat.le_of_ble_eq_true rfl, Nat.le_of_ble_eq_true rfl⟩ (Nat.le_of_ble_eq_true rfl) rfl ?_
        refine pr_ireturn dX8_truck_115 rfl ?_
        exact ⟨by simp [q_truck, hk, vix_nI], rfl⟩
      · refine pr_table 116 dX8_truck_17 (Or.inr ⟨by decide, by decide, 99, rfl, rfl⟩) ?_
        refine pr_aload_n 117 dX8_truck_116 rfl rfl rfl ?_
        refine pr_getP d 120 dX8_truck_117 fX8_52 h1 rfl ?_
        refine pr_iload_n 121 dX8_truck_120 rfl rfl rfl ?_
        refine pr_invD1 124 dX8_truck_121 vX8_154 mX0_fuelTold (sp_X0_fuelTold hd hW (by omega)) ⟨Nat.le_of_ble_eq_true rfl, Nat.le_of_ble_eq_true rfl⟩ (Nat.le_of_ble_eq_true rfl) rfl ?_
        refine pr_ireturn dX8_truck_124 rfl ?_
        exact ⟨by simp [q_truck, hk, vix_nI], rfl⟩
      · refine pr_table 125 dX8_truck_17 (Or.inr ⟨by decide, by decide, 108, rfl, rfl⟩) ?_
        refine pr_aload_n 126 dX8_truck_125 rfl rfl rfl ?_
        refine pr_iload_n 127 dX8_truck_126 rfl rfl rfl ?_
        refine pr_invD1 130 dX8_truck_127 vX8_157 mX8_lastPlace (sp_X8_lastPlace hI hW (by omega)) ⟨Nat.le_of_ble_eq_true rfl, Nat.le_of_ble_eq_true rfl⟩ (Nat.le_of_ble_eq_true rfl) rfl ?_
        refine pr_ireturn dX8_truck_130 rfl ?_
        exact ⟨by simp [q_truck, hk, vix_nI], rfl⟩
      · refine pr_table 131 dX8_truck_17 (Or.inr ⟨by decide, by decide, 114, rfl, rfl⟩) ?_
        refine pr_aload_n 132 dX8_truck_131 rfl rfl rfl ?_
        refine pr_iload_n 133 dX8_truck_132 rfl rfl rfl ?_
        refine pr_aload_n 134 dX8_truck_133 rfl rfl rfl ?_
        refine pr_getR0 137 dX8_truck_134 fX8_35 rfl ?_
        refine pr_getR0 140 dX8_truck_137 fX8_160 rfl ?_
        refine pr_invD2 143 dX8_truck_140 vX8_147 mX8_sumOverTrips (sp_sumOver_est hI hW (by omega) (f := est K) (fun t ht => hA.1 t ht)) ⟨Nat.le_of_ble_eq_true rfl, Nat.le_of_ble_eq_true rfl⟩ (Nat.le_of_ble_eq_true rfl) rfl ?_
        refine pr_ireturn dX8_truck_143 rfl ?_
        exact ⟨by simp [q_truck, hk, vix_nI], rfl⟩
set_option maxRecDepth 100000 in
theorem sp_X8_busiest (h : IC mem d K) (hW : WF K) (hZ : WZ K) : Cd yX8_busiest cX8_busiest 5 (some .int) 0 0 [pR 10008908 0] mem (some (pI (bzI (bz K 144)))) mem := by
  have h12 := hW.2.1
  obtain ⟨h1, hd, -, -, -, hw, -⟩ := h
  have lp : ∀ j a, a + j = K 37 → ∀ o : Option pm_v, PR cX8_busiest RX8 5 0 0 6 [some (pR 10008908 0), some (pI (bzI (bz K (12 * a)))), some (pI (nI (bzM K (bz K (12 * a))))), some (pI (nI a)), o] [] mem (pm_RX cX8_busiest (some .int) (fun r' m' => r' = some (pI (bzI (bz K 144))) ∧ m' = mem)) := by
    intro j
    induction j with
    | zero =>
      intro a hj o
      have e : a = K 37 := by omega
      have e2 : bz K (12 * a) = bz K 144 := by
        have := bz_run (K := K) (a := 12 * a) (n := 144 - 12 * a) (fun k h1 h2 => by
          have := hZ.2.1 (k / 12) (k % 12) (by omega) (by omega) (by omega)
          rw [show 709 + 12 * (k / 12) + k % 12 = 709 + k by omega] at this
          exact this)
        rw [show 12 * a + (144 - 12 * a) = 144 by omega] at this
        exact this.symm
      rw [e2]
      subst e
      refine pr_iload_n 7 dX8_busiest_6 rfl rfl rfl ?_
      refine pr_aload_n 8 dX8_busiest_7 rfl rfl rfl ?_
      refine pr_getP d 11 dX8_busiest_8 fX8_52 h1 rfl ?_
      refine pr_getI 14 dX8_busiest_11 fX8_96 rfl ?_
      rw [hd.2.1]
      refine pr_icmp_ge 87 17 dX8_busiest_14 rfl rfl (fun c_14 => ?_) (fun c_14 => absurd (Int32.le_refl _) (c_14))
      refine pr_iload_n 88 dX8_busiest_87 rfl rfl rfl ?_
      refine pr_ireturn dX8_busiest_88 rfl ?_
      exact ⟨rfl, rfl⟩
    | succ j ih =>
      intro a hj o
      have lp2 : ∀ i b, b + i = K 37 → PR cX8_busiest RX8 5 0 0 20 [some (pR 10008908 0), some (pI (bzI (bz K (12 * a + b)))), some (pI (nI (bzM K (bz K (12 * a + b))))), some (pI (nI a)), some (pI (nI b))] [] mem (pm_RX cX8_busiest (some .int) (fun r' m' => r' = some (pI (bzI (bz K 144))) ∧ m' = mem)) := by
        intro i
        induction i with
        | zero =>
          intro b hi
          have e : b = K 37 := by omega
          have e2 : bz K (12 * a + b) = bz K (12 * (a + 1)) := by
            have := bz_run (K := K) (a := 12 * a + b) (n := 12 - b) (fun k h1 h2 => by
              have := hZ.2.1 (k / 12) (k % 12) (by omega) (by omega) (by omega)
              rw [show 709 + 12 * (k / 12) + k % 12 = 709 + k by omega] at this
              exact this)
            rw [show 12 * a + b + (12 - b) = 12 * (a + 1) by omega] at this
            exact this.symm
          rw [e2]
          subst e
          refine pr_iload 22 dX8_busiest_20 rfl rfl ?_
          refine pr_aload_n 23 dX8_busiest_22 rfl rfl rfl ?_
          refine pr_getP d 26 dX8_busiest_23 fX8_52 h1 rfl ?_
          refine pr_getI 29 dX8_busiest_26 fX8_96 rfl ?_
          rw [hd.2.1]
          refine pr_icmp_ge 81 32 dX8_busiest_29 rfl rfl (fun c_29 => ?_) (fun c_29 => absurd (Int32.le_refl _) (c_29))
          refine pr_iinc 84 dX8_busiest_81 rfl (by first | exact pm_inc _ | rfl) (pm_st_3 rfl rfl) rfl ?_
          refine pr_goto 6 dX8_busiest_84 rfl ?_
          exact ih (a + 1) (by omega) _
        | succ i ih2 =>
          intro b hi
          have hm := bzM_lt hZ (k := 12 * a + b) (by omega)
          have hv := hZ.2.2 (12 * a + b) (by omega)
          have hw' := hw a b (by omega) (by omega)
          rw [show 709 + 12 * a + b = 709 + (12 * a + b) by omega] at hw'
          have hI2 := ih2 (b + 1) (by omega)
          rw [show 12 * a + (b + 1) = (12 * a + b) + 1 by omega] at hI2
          by_cases e : a = b
          · have z := hZ.2.1 a b (by omega) (by omega) (Or.inr (Or.inr e))
            rw [show 709 + 12 * a + b = 709 + (12 * a + b) by omega] at z
            rw [bz_0 z] at hI2
            refine pr_iload 22 dX8_busiest_20 rfl rfl ?_
            refine pr_aload_n 23 dX8_busiest_22 rfl rfl rfl ?_
            refine pr_getP d 26 dX8_busiest_23 fX8_52 h1 rfl ?_
            refine pr_getI 29 dX8_busiest_26 fX8_96 rfl ?_
            rw [hd.2.1]
            refine pr_icmp_ge 81 32 dX8_busiest_29 rfl rfl (fun c_29 => absurd (c_29) (nI_ge (by omega) (by omega))) (fun c_29 => ?_)
            refine pr_iload_n 33 dX8_busiest_32 rfl rfl rfl ?_
            refine pr_iload 35 dX8_busiest_33 rfl rfl ?_
            refine pr_icmp_eq 75 38 dX8_busiest_35 rfl rfl (fun c_35 => ?_) (fun c_35 => absurd (congrArg nI e) (c_35))
            refine pr_iinc 78 dX8_busiest_75 rfl (by first | exact pm_inc _ | rfl) (pm_st_4 rfl rfl) rfl ?_
            refine pr_goto 20 dX8_busiest_78 rfl ?_
            exact hI2
          · refine pr_iload 22 dX8_busiest_20 rfl rfl ?_
            refine pr_aload_n 23 dX8_busiest_22 rfl rfl rfl ?_
            refine pr_getP d 26 dX8_busiest_23 fX8_52 h1 rfl ?_
            refine pr_getI 29 dX8_busiest_26 fX8_96 rfl ?_
            rw [hd.2.1]
            refine pr_icmp_ge 81 32 dX8_busiest_29 rfl rfl (fun c_29 => absurd (c_29) (nI_ge (by omega) (by omega))) (fun c_29 => ?_)
            refine pr_iload_n 33 dX8_busiest_32 rfl rfl rfl ?_
            refine pr_iload 35 dX8_busiest_33 rfl rfl ?_
            refine pr_icmp_eq 75 38 dX8_busiest_35 rfl rfl (fun c_35 => absurd (c_35) (fun z => e ((nI_eq (by omega) (by omega)).mp z))) (fun c_35 => ?_)
            refine pr_aload_n 39 dX8_busiest_38 rfl rfl rfl ?_
            refine pr_getR0 42 dX8_busiest_39 fX8_28 rfl ?_
            refine pr_getR0 45 dX8_busiest_42 fX8_243 rfl ?_
            refine pr_iload_n 46 dX8_busiest_45 rfl rfl rfl ?_
            first | refine pr_aaload0 (n := 12) a 20012607 47 dX8_busiest_46 rfl rfl rfl rfl (by omega) rfl ?_ | refine pr_aaload (n := 12) a 20012607 47 dX8_busiest_46 rfl rfl rfl rfl (by omega) rfl ?_
            refine pr_iload 49 dX8_busiest_47 rfl rfl ?_
            refine pr_iaload b 50 dX8_busiest_49 rfl rfl rfl (by omega) rfl ?_
            rw [hw']
            refine pr_iload_n 51 dX8_busiest_50 rfl rfl rfl ?_
            refine pr_icmp_le 75 54 dX8_busiest_51 rfl rfl (fun c_51 => ?_) (fun c_51 => ?_)
            · rw [nI_leI (by omega) (by omega)] at c_51
              rw [bz, if_neg (by omega)] at hI2
              refine pr_iinc 78 dX8_busiest_75 rfl (by first | exact pm_inc _ | rfl) (pm_st_4 rfl rfl) rfl ?_
              refine pr_goto 20 dX8_busiest_78 rfl ?_
              exact hI2
            · rw [nI_leI (by omega) (by omega)] at c_51
              rw [bz, if_pos (by omega)] at hI2
              refine pr_aload_n 55 dX8_busiest_54 rfl rfl rfl ?_
              refine pr_getR0 58 dX8_busiest_55 fX8_28 rfl ?_
              refine pr_getR0 61 dX8_busiest_58 fX8_243 rfl ?_
              refine pr_iload_n 62 dX8_busiest_61 rfl rfl rfl ?_
              first | refine pr_aaload0 (n := 12) a 20012607 63 dX8_busiest_62 rfl rfl rfl rfl (by omega) rfl ?_ | refine pr_aaload (n := 12) a 20012607 63 dX8_busiest_62 rfl rfl rfl rfl (by omega) rfl ?_
              refine pr_iload 65 dX8_busiest_63 rfl rfl ?_
              refine pr_iaload b 66 dX8_busiest_65 rfl rfl rfl (by omega) rfl ?_
              rw [hw']
              refine pr_istore_n 67 dX8_busiest_66 rfl (pm_st_2 rfl rfl) rfl ?_
              refine pr_bipush (100) 69 dX8_busiest_67 (by decide) rfl ?_
              refine pr_iload_n 70 dX8_busiest_69 rfl rfl rfl ?_
              refine pr_imul 71 dX8_busiest_70 rfl ?_
              rw [show (100 : Int32) = nI 100 from rfl, nI_mulN]
              refine pr_iload 73 dX8_busiest_71 rfl rfl ?_
              refine pr_iadd 74 dX8_busiest_73 rfl ?_
              rw [nI_add]
              refine pr_istore_n 75 dX8_busiest_74 rfl (pm_st_1 rfl rfl) rfl ?_
              refine pr_iinc 78 dX8_busiest_75 rfl (by first | exact pm_inc _ | rfl) (pm_st_4 rfl rfl) rfl ?_
              refine pr_goto 20 dX8_busiest_78 rfl ?_
              rw [bzI, bzM, show (12 * a + b) / 12 = a by omega, show (12 * a + b) % 12 = b by omega] at hI2
              exact hI2
      refine pr_iload_n 7 dX8_busiest_6 rfl rfl rfl ?_
      refine pr_aload_n 8 dX8_busiest_7 rfl rfl rfl ?_
      refine pr_getP d 11 dX8_busiest_8 fX8_52 h1 rfl ?_
      refine pr_getI 14 dX8_busiest_11 fX8_96 rfl ?_
      rw [hd.2.1]
      refine pr_icmp_ge 87 17 dX8_busiest_14 rfl rfl (fun c_14 => absurd (c_14) (nI_ge (by omega) (by omega))) (fun c_14 => ?_)
      refine pr_iconst (0) 18 dX8_busiest_17 (by decide) rfl ?_
      refine pr_istore 20 dX8_busiest_18 (pm_st_4 rfl rfl) rfl ?_
      exact lp2 (K 37) 0 (by omega)
  refine Cl.of (own := RX8) rfl rfl (Nat.le_of_ble_eq_true rfl) rfl ?_; show PR _ _ _ _ _ _ [some _, none, none, none, none] _ _ _
  refine pr_iconst (-1) 1 dX8_busiest_0 (by decide) rfl ?_
  refine pr_istore_n 2 dX8_busiest_1 rfl (pm_st_1 rfl rfl) rfl ?_
  refine pr_iconst (0) 3 dX8_busiest_2 (by decide) rfl ?_
  refine pr_istore_n 4 dX8_busiest_3 rfl (pm_st_2 rfl rfl) rfl ?_
  refine pr_iconst (0) 5 dX8_busiest_4 (by decide) rfl ?_
  refine pr_istore_n 6 dX8_busiest_5 rfl (pm_st_3 rfl rfl) rfl ?_
  exact lp (K 37) 0 (by omega) _
end CF
