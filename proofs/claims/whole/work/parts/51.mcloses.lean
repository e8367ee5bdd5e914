/-! the reference: closes -/
section MCL
variable {mem0 : pm_M} {K w lk : Nat → Nat} {M k : Nat} {o : Option Nat}
def sMC : Nat → Nat → Prop := fun t i => t ∈ [10009909, 20016377, 40017384, 20017383, 20017382, 40017385] ∧ i = 0
/-- the reference's fields, but open -/
def mdO (m0 m : pm_M) : Prop := (∀ k, k ≠ 28 → m.1 10009909 0 k = m0.1 10009909 0 k) ∧ m.2.1 10009909 0 = m0.2.1 10009909 0
theorem mdO.rf : mdO mem0 mem0 := ⟨fun _ _ => rfl, rfl⟩
theorem mdO.tr {m1 m2 : pm_M} (h1 : mdO mem0 m1) (h2 : mdO m1 m2) : mdO mem0 m2 := ⟨fun k hk => (h2.1 k hk).trans (h1.1 k hk), h2.2.trans h1.2⟩
theorem mdO.uI {mem : pm_M} (h : mdO mem0 mem) {t i k : Nat} {x : Int32} (hne : t ≠ 10009909) : mdO mem0 (pm_uI mem t i k x) := ⟨fun z hz => by rw [pm_gIn (fun y => hne y.1.symm)]; exact h.1 z hz, h.2⟩
theorem mdO.uJ {mem : pm_M} (h : mdO mem0 mem) {t i k : Nat} {x : Int64} (hne : t ≠ 10009909) : mdO mem0 (pm_uJ mem t i k x) := ⟨h.1, by rw [← h.2]; funext z; rw [pm_gJn (fun y => hne y.1.symm)]⟩
theorem mdO.uO {mem : pm_M} (h : mdO mem0 mem) {x : Int32} : mdO mem0 (pm_uI mem 10009909 0 28 x) := ⟨fun z hz => by rw [pm_gIn (fun y => hz y.2.2)]; exact h.1 z hz, h.2⟩
theorem mdO.fr {S : Nat → Nat → Prop} {mem : pm_M} (hf : pm_fr S mem0 mem) (h : ¬ S 10009909 0) : mdO mem0 mem := ⟨fun k _ => by rw [(hf _ _ h).1], (hf _ _ h).2.1⟩
theorem rowR.fr {S : Nat → Nat → Prop} {mem : pm_M} {T : Nat} (h : rowR T mem0 K) (hf : pm_fr S mem0 mem) (h1 : ¬ S T 0) : rowR T mem K := by
  unfold rowR
  rw [(hf _ _ h1).1]
  exact h
theorem mwR.fr {S : Nat → Nat → Prop} {mem : pm_M} (h : mwR mem0 w lk M o) (hf : pm_fr S mem0 mem) (hm : mdO mem0 mem) (h1 : ¬ S 20017375 0) (h2 : ¬ S 20017376 0) : mwR mem w lk M o := by
  unfold mwR
  rw [hm.1 _ (by decide), hm.1 _ (by decide), (hf _ _ h1).1, (hf _ _ h2).1]
  exact h
/-- loop B, up to trip t -/
def mcB (mem0 mem : pm_M) (k : Nat) (K : Nat → Nat) (t : Nat) : Prop :=
  pm_fr sMC mem0 mem ∧ mem.1 10009909 0 = mem0.1 10009909 0 ∧ mem.2.1 10009909 0 = mem0.2.1 10009909 0 ∧ mem.1 20016377 0 = mem0.1 20016377 0 ∧ ∀ j, j < rk (sel K k) t → mem.2.1 40017384 0 j = lN (est K (en (sel K k) (K 40) j)) ∧ mem.1 20017383 0 j = nI (en (sel K k) (K 40) j)
set_option maxRecDepth 100000 in
theorem lp_X9_closesB (h : rowR 20869371 mem0 K) (hW : WF K) (hk : k < 4) {X : Nat → List (Option pm_v) → List pm_v → pm_M → Prop} {a2 a3 a4 a5 : Option pm_v}
    (hc : ∀ mem, mcB mem0 mem k K (K 40) → PR cX9_closes RX9 9 2 44 202 [some (pR 10009909 0), some (pI (nI k)), a2, a3, a4, a5, some (pI (if kpt K k = true then 1 else 0)), some (pI (nI (rk (sel K k) (K 40)))), some (pI (nI (K 40)))] [] mem X) :
    ∀ j t mem, t + j = K 40 → mcB mem0 mem k K t → PR cX9_closes RX9 9 2 44 129 [some (pR 10009909 0), some (pI (nI k)), a2, a3, a4, a5, some (pI (if kpt K k = true then 1 else 0)), some (pI (nI (rk (sel K k) t))), some (pI (nI t))] [] mem X := by
  have h16 := hW.2.2.2.2.1
  have h4 := hW.2.2.1
  have hkz : (if kpt K k = true then (1 : Int32) else 0) = 0 ↔ ¬ kpt K k = true := by by_cases z : kpt K k = true <;> simp [z]
  intro j
  induction j with
  | zero =>
    intro t mem hj hi
    have e : t = K 40 := by omega
    subst e
    have h1 := h.fr hi.1 (by simp [sMC])
    refine pr_iload 131 dX9_closes_129 rfl rfl ?_
    refine pr_aload_n 132 dX9_closes_131 rfl rfl rfl ?_
    refine pr_invD0 135 dX9_closes_132 vX9_173 mX9_trips (sp_X9_trips h1) ⟨Nat.le_of_ble_eq_true rfl, Nat.le_of_ble_eq_true rfl⟩ (Nat.le_of_ble_eq_true rfl) rfl ?_
    refine pr_icmp_ge 202 138 dX9_closes_135 rfl rfl (fun c_135 => ?_) (fun c_135 => absurd (Int32.le_refl _) (c_135))
    exact hc mem hi
  | succ j ih =>
    intro t mem hj hi
    obtain ⟨i1, i2, i3, i4, i5⟩ := hi
    have h1 := h.fr i1 (by simp [sMC])
    obtain ⟨a1, a2', -⟩ := hW.2.2.2.2.2.2.2.2.1 t (by omega)
    have hrk := rk_le (sel K k) t
    have heb := est_le hW (t := t) (by omega)
    have skip : ¬ sel K k t = true → PR cX9_closes RX9 9 2 44 196 [some (pR 10009909 0), some (pI (nI k)), a2, a3, a4, a5, some (pI (if kpt K k = true then 1 else 0)), some (pI (nI (rk (sel K k) t))), some (pI (nI t))] [] mem X := by
      intro hs
      refine pr_iinc 199 dX9_closes_196 rfl (by first | exact pm_inc _ | rfl) (pm_st_8 rfl rfl) rfl ?_
      refine pr_goto 129 dX9_closes_199 rfl ?_
      have e : rk (sel K k) (t + 1) = rk (sel K k) t := by simp [rk, sm, hs]
      have := ih (t + 1) mem (by omega) ⟨i1, i2, i3, i4, by rw [e]; exact i5⟩
      rw [e] at this
      exact this
    have take : sel K k t = true → PR cX9_closes RX9 9 2 44 170 [some (pR 10009909 0), some (pI (nI k)), a2, a3, a4, a5, some (pI (if kpt K k = true then 1 else 0)), some (pI (nI (rk (sel K k) t))), some (pI (nI t))] [] mem X := by
      intro hs
      refine pr_aload_n 171 dX9_closes_170 rfl rfl rfl ?_
      refine pr_getR0 174 dX9_closes_171 fX9_100 rfl ?_
      refine pr_iload 176 dX9_closes_174 rfl rfl ?_
      refine pr_aload_n 177 dX9_closes_176 rfl rfl rfl ?_
      refine pr_iload 179 dX9_closes_177 rfl rfl ?_
      refine pr_invD1 182 dX9_closes_179 vX9_192 mX9_estimateOf (sp_X9_estimateOf h1 hW (t := t) (by omega)) ⟨Nat.le_of_ble_eq_true rfl, Nat.le_of_ble_eq_true rfl⟩ (Nat.le_of_ble_eq_true rfl) rfl ?_
      refine pr_i2l 183 dX9_closes_182 rfl ?_
      rw [nI_l (by omega)]
      refine pr_lastore (rk (sel K k) t) 184 dX9_closes_183 rfl rfl rfl (by omega) rfl ?_
      refine pr_aload_n 185 dX9_closes_184 rfl rfl rfl ?_
      refine pr_getR0 188 dX9_closes_185 fX9_97 rfl ?_
      refine pr_iload 190 dX9_closes_188 rfl rfl ?_
      refine pr_iload 192 dX9_closes_190 rfl rfl ?_
      refine pr_iastore (rk (sel K k) t) 193 dX9_closes_192 rfl rfl rfl (by omega) rfl ?_
      refine pr_iinc 196 dX9_closes_193 rfl (by first | exact pm_inc _ | rfl) (pm_st_7 rfl rfl) rfl ?_
      refine pr_iinc 199 dX9_closes_196 rfl (by first | exact pm_inc _ | rfl) (pm_st_8 rfl rfl) rfl ?_
      refine pr_goto 129 dX9_closes_199 rfl ?_
      have e : rk (sel K k) (t + 1) = rk (sel K k) t + 1 := by simp [rk, sm, hs]
      rw [← e]
      refine ih (t + 1) _ (by omega) ⟨(i1.uJ ⟨by simp, rfl⟩).uI ⟨by simp, rfl⟩, ?_, ?_, ?_, fun j hj => ?_⟩
      · rw [← i2]; funext z; rw [pm_gIn (by simp), pm_gIJ]
      · rw [← i3]; funext z; rw [pm_gJI, pm_gJn (by simp)]
      · rw [← i4]; funext z; rw [pm_gIn (by simp), pm_gIJ]
      · by_cases z : j = rk (sel K k) t
        · subst z
          rw [pm_gJI, pm_gJe, pm_gIe, en_rk (by omega) hs]
          exact ⟨rfl, rfl⟩
        · rw [pm_gJI, pm_gJn (by omega), pm_gIn (by omega), pm_gIJ]
          exact i5 j (by omega)
    refine pr_iload 131 dX9_closes_129 rfl rfl ?_
    refine pr_aload_n 132 dX9_closes_131 rfl rfl rfl ?_
    refine pr_invD0 135 dX9_closes_132 vX9_173 mX9_trips (sp_X9_trips h1) ⟨Nat.le_of_ble_eq_true rfl, Nat.le_of_ble_eq_true rfl⟩ (Nat.le_of_ble_eq_true rfl) rfl ?_
    refine pr_icmp_ge 202 138 dX9_closes_135 rfl rfl (fun c_135 => absurd (c_135) (nI_ge (by omega) (by omega))) (fun c_135 => ?_)
    refine pr_aload_n 139 dX9_closes_138 rfl rfl rfl ?_
    refine pr_iload 141 dX9_closes_139 rfl rfl ?_
    refine pr_iconst (0) 142 dX9_closes_141 (by decide) rfl ?_
    refine pr_invD2 145 dX9_closes_142 vX9_182 mX9_its (sp_its0 h1 t (by omega)) ⟨Nat.le_of_ble_eq_true rfl, Nat.le_of_ble_eq_true rfl⟩ (Nat.le_of_ble_eq_true rfl) rfl ?_
    refine pr_iload_n 146 dX9_closes_145 rfl rfl rfl ?_
    refine pr_icmp_ne 196 149 dX9_closes_146 rfl rfl (fun c_146 => ?_) (fun c_146 => ?_)
    · rw [nI_eq (by omega) (by omega)] at c_146
      exact skip (by simp [sel, c_146])
    · rw [nI_eq (by omega) (by omega)] at c_146
      refine pr_iload 151 dX9_closes_149 rfl rfl ?_
      refine pr_if_eq 170 154 dX9_closes_151 rfl rfl (fun c_151 => ?_) (fun c_151 => ?_)
      · rw [hkz] at c_151
        exact take (by simp [sel, c_146, c_151])
      · rw [hkz, Decidable.not_not] at c_151
        refine pr_aload_n 155 dX9_closes_154 rfl rfl rfl ?_
        refine pr_getR0 158 dX9_closes_155 fX9_64 rfl ?_
        refine pr_iconst (4) 159 dX9_closes_158 (by decide) rfl ?_
        refine pr_iload 161 dX9_closes_159 rfl rfl ?_
        refine pr_iadd 162 dX9_closes_161 rfl ?_
        refine pr_iaload (4 + t) 163 dX9_closes_162 rfl rfl (nI_add 4 t) (by omega) rfl ?_
        rw [h1.2 t (by omega)]
        refine pr_iconst (-1) 164 dX9_closes_163 (by decide) rfl ?_
        refine pr_icmp_eq 170 167 dX9_closes_164 rfl rfl (fun c_164 => ?_) (fun c_164 => ?_)
        · rw [fuI a1] at c_164
          exact take (by simp [sel, c_146, c_164])
        · rw [fuI a1] at c_164
          refine pr_goto 196 dX9_closes_167 rfl ?_
          exact skip (by simp [sel, c_146, c_151, c_164])
set_option maxRecDepth 100000 in
theorem sp_X9_closes (h : rowR 20869371 mem0 K) (hW : WF K) (hk : k < K 38) {op : Nat} (ho : mem0.1 10009909 0 28 = nI op) : Cl yX9_closes cX9_closes 9 none 2 44 [pR 10009909 0, pI (nI k)] mem0 (fun r mem => r = none ∧ pm_fr sMC mem0 mem ∧ mdO mem0 mem ∧ mem.1 10009909 0 28 = nI (op + if hasT K k = true then 0 else K k) ∧ ∀ u, u < K 40 → mem.1 20016377 0 u = if K (101 + 6 * u) = k then nI (cld K u) else mem0.1 20016377 0 u) := by
  have h16 := hW.2.2.2.2.1
  have h4 := hW.2.2.1
  have hbk := (hW.2.2.2.2.2.1 k (by omega)).1
  have hrk := rk_le (sel K k) (K 40)
  have htl : tld K k ≤ 16 * 9999 := by
    have := sm_bnd (f := fun t => if K (101 + 6 * t) = k ∧ ¬ K (4 + t) = 0 then K (4 + t) - 1 else 0) (n := K 40) (b := 9999) (fun t ht => by
      have := (hW.2.2.2.2.2.2.2.2.1 t ht).1
      have h2 : K (4 + t) - 1 ≤ 9999 := by omega
      show (if _ then _ else _) ≤ _
      split
      · exact h2
      · exact Nat.zero_le _)
    exact Nat.le_trans this (Nat.mul_le_mul_right _ h16)
  have hms : mis K k ≤ 16 * 400000 := by
    have := sm_bnd (f := fun t => if K (101 + 6 * t) = k ∧ K (4 + t) = 0 then est K t else 0) (n := K 40) (b := 400000) (fun t ht => by
      have := est_le hW ht
      show (if _ then _ else _) ≤ _
      split
      · exact this
      · exact Nat.zero_le _)
    exact Nat.le_trans this (Nat.mul_le_mul_right _ h16)
  have hof1 : sm (fun t => if K (101 + 6 * t) = k then 1 else 0) (K 40) ≤ 16 := by
    have := sm_bnd (f := fun t => if K (101 + 6 * t) = k then 1 else 0) (n := K 40) (b := 1) (fun t ht => by show (if _ then _ else _) ≤ _; split <;> omega)
    omega
  -- the last loop
  have lpD : ∀ j n mem, n + j = rk (sel K k) (K 40) → pm_fr sMC mem0 mem → mdO mem0 mem → mem.1 10009909 0 28 = nI op → (∀ i, i < rk (sel K k) (K 40) → mem.1 20017383 0 i = nI (en (sel K k) (K 40) i) ∧ mem.1 20017382 0 i = nI (pa (bgt K k) (rk (sel K k) (K 40)) (fun j => est K (en (sel K k) (K 40) j)) i)) → (∀ u, u < K 40 → mem.1 20016377 0 u = if K (101 + 6 * u) = k then (if sel K k u = true ∧ n ≤ rk (sel K k) u then mem.1 20016377 0 u else nI (cld K u)) else mem0.1 20016377 0 u) → hasT K k = true → ∀ a2 a3 a4 a5 a6, PR cX9_closes RX9 9 2 44 270 [some (pR 10009909 0), some (pI (nI k)), a2, a3, a4, a5, a6, some (pI (nI (rk (sel K k) (K 40)))), some (pI (nI n))] [] mem (pm_RX cX9_closes none (fun r mem => r = none ∧ pm_fr sMC mem0 mem ∧ mdO mem0 mem ∧ mem.1 10009909 0 28 = nI (op + if hasT K k = true then 0 else K k) ∧ ∀ u, u < K 40 → mem.1 20016377 0 u = if K (101 + 6 * u) = k then nI (cld K u) else mem0.1 20016377 0 u)) := by
    intro j
    induction j with
    | zero =>
      intro n mem hj i1 i2 i3 i4 i5 hh a2 a3 a4 a5 a6
      have e : n = rk (sel K k) (K 40) := by omega
      subst e
      refine pr_iload 272 dX9_closes_270 rfl rfl ?_
      refine pr_iload 274 dX9_closes_272 rfl rfl ?_
      refine pr_icmp_ge 302 277 dX9_closes_274 rfl rfl (fun c_274 => ?_) (fun c_274 => absurd (Int32.le_refl _) (c_274))
      refine pr_return dX9_closes_302 rfl ?_
      refine ⟨rfl, i1, i2, by rw [if_pos hh]; exact i3, fun u hu => ?_⟩
      have := i5 u hu
      by_cases z : K (101 + 6 * u) = k
      · rw [if_pos z] at this ⊢
        rw [if_neg (fun y => by have := rk_lt hu y.1; omega)] at this
        exact this
      · rw [if_neg z] at this ⊢
        exact this
    | succ j ih =>
      intro n mem hj i1 i2 i3 i4 i5 hh a2 a3 a4 a5 a6
      obtain ⟨e1, e2, e3⟩ := en_ok (p := sel K k) (N := K 40) (j := n) (by omega)
      have hofk : K (101 + 6 * en (sel K k) (K 40) n) = k := by
        have := e2
        simp [sel] at this
        exact this.1
      refine pr_iload 272 dX9_closes_270 rfl rfl ?_
      refine pr_iload 274 dX9_closes_272 rfl rfl ?_
      refine pr_icmp_ge 302 277 dX9_closes_274 rfl rfl (fun c_274 => absurd (c_274) (nI_ge (by omega) (by omega))) (fun c_274 => ?_)
      refine pr_aload_n 278 dX9_closes_277 rfl rfl rfl ?_
      refine pr_getR0 281 dX9_closes_278 fX9_79 rfl ?_
      refine pr_aload_n 282 dX9_closes_281 rfl rfl rfl ?_
      refine pr_getR0 285 dX9_closes_282 fX9_97 rfl ?_
      refine pr_iload 287 dX9_closes_285 rfl rfl ?_
      refine pr_iaload n 288 dX9_closes_287 rfl rfl rfl (by omega) rfl ?_
      rw [(i4 n (by omega)).1]
      refine pr_aload_n 289 dX9_closes_288 rfl rfl rfl ?_
      refine pr_getR0 292 dX9_closes_289 fX9_94 rfl ?_
      refine pr_iload 294 dX9_closes_292 rfl rfl ?_
      refine pr_iaload n 295 dX9_closes_294 rfl rfl rfl (by omega) rfl ?_
      rw [(i4 n (by omega)).2]
      refine pr_iastore (en (sel K k) (K 40) n) 296 dX9_closes_295 rfl rfl rfl (by omega) rfl ?_
      refine pr_iinc 299 dX9_closes_296 rfl (by first | exact pm_inc _ | rfl) (pm_st_8 rfl rfl) rfl ?_
      refine pr_goto 270 dX9_closes_299 rfl ?_
      refine ih (n + 1) _ (by omega) (i1.uI ⟨by simp, rfl⟩) (i2.uI (by decide)) (by rw [pm_gIn (by simp)]; exact i3) (fun i hi => by rw [pm_gIn (by simp), pm_gIn (by simp)]; exact i4 i hi) (fun u hu => ?_) hh _ _ _ _ _
      have := i5 u hu
      by_cases z : u = en (sel K k) (K 40) n
      · subst z
        rw [pm_gIe, if_pos hofk, if_neg (by rw [e3]; omega)]
        unfold cld
        rw [hofk, if_pos e2, e3]
      · rw [pm_gIn (fun y => z y.2.2)]
        by_cases y : K (101 + 6 * u) = k
        · rw [if_pos y] at this ⊢
          by_cases x : sel K k u = true ∧ n + 1 ≤ rk (sel K k) u
          · rw [if_pos x]
          · rw [if_neg x]
            rw [if_neg (fun v => x ⟨v.1, by
              rcases Nat.lt_or_ge n (rk (sel K k) u) with q | q
              · exact q
              · exfalso
                have e4 : rk (sel K k) u = n := by omega
                have e5 := en_rk hu v.1
                rw [e4] at e5
                exact z e5.symm⟩)] at this
            exact this
        · rw [if_neg y] at this ⊢
          exact this
  -- the loop before it
  have lpC : ∀ j t mem, t + j = K 40 → pm_fr sMC mem0 mem → mdO mem0 mem → mem.1 10009909 0 28 = nI op → (∀ i, i < rk (sel K k) (K 40) → mem.2.1 40017384 0 i = lN (est K (en (sel K k) (K 40) i)) ∧ mem.1 20017383 0 i = nI (en (sel K k) (K 40) i)) → (∀ u, u < K 40 → mem.1 20016377 0 u = if K (101 + 6 * u) = k ∧ u < t then nI (K (4 + u)) - 1 else mem0.1 20016377 0 u) → hasT K k = true → ∀ a2 a4, PR cX9_closes RX9 9 2 44 205 [some (pR 10009909 0), some (pI (nI k)), a2, some (pI (nI (tld K k))), a4, some (pI (nI (K k))), some (pI (if kpt K k = true then 1 else 0)), some (pI (nI (rk (sel K k) (K 40)))), some (pI (nI t))] [] mem (pm_RX cX9_closes none (fun r mem => r = none ∧ pm_fr sMC mem0 mem ∧ mdO mem0 mem ∧ mem.1 10009909 0 28 = nI (op + if hasT K k = true then 0 else K k) ∧ ∀ u, u < K 40 → mem.1 20016377 0 u = if K (101 + 6 * u) = k then nI (cld K u) else mem0.1 20016377 0 u)) := by
    intro j
    induction j with
    | zero =>
      intro t mem hj i1 i2 i3 i4 i5 hh a2 a4
      have e : t = K 40 := by omega
      subst e
      have h1 := h.fr i1 (by simp [sMC])
      have hbg : bgt K k ≤ 9999 := by unfold bgt; split <;> omega
      have hkz : (if kpt K k = true then (1 : Int32) else 0) = 0 ↔ ¬ kpt K k = true := by by_cases z : kpt K k = true <;> simp [z]
      have pt : PR cX9_closes RX9 9 2 44 262 [some (pR 10009909 0), some (pI (nI k)), a2, some (pI (nI (tld K k))), a4, some (pI (nI (K k))), some (pI (if kpt K k = true then 1 else 0)), some (pI (nI (rk (sel K k) (K 40)))), some (pI (nI (K 40)))] [pI (nI (bgt K k)), pR 10009909 0] mem (pm_RX cX9_closes none (fun r mem => r = none ∧ pm_fr sMC mem0 mem ∧ mdO mem0 mem ∧ mem.1 10009909 0 28 = nI (op + if hasT K k = true then 0 else K k) ∧ ∀ u, u < K 40 → mem.1 20016377 0 u = if K (101 + 6 * u) = k then nI (cld K u) else mem0.1 20016377 0 u)) := by
        refine pr_iload 264 dX9_closes_262 rfl rfl ?_
        refine pr_inv0R2 267 dX9_closes_264 vX9_198 mX9_parts (sp_X9_parts (m := fun j => est K (en (sel K k) (K 40) j)) (by omega) (fun i hi => (i4 i hi).1) (fun i hi => by have := est_le hW (en_ok hi).1; omega) (by omega)) ⟨Nat.le_of_ble_eq_true rfl, Nat.le_of_ble_eq_true rfl⟩ (Nat.le_of_ble_eq_true rfl) rfl (fun mem1 g1 => ?_)
        refine pr_iconst (0) 268 dX9_closes_267 (by decide) rfl ?_
        refine pr_istore 270 dX9_closes_268 (pm_st_8 rfl rfl) rfl ?_
        obtain ⟨j1, j2⟩ := g1
        have jf : pm_fr sMC mem mem1 := j1.mono (fun t i h => ⟨by rcases h.1 with z | z <;> simp [z], h.2⟩)
        refine lpD (rk (sel K k) (K 40)) 0 mem1 (by omega) (i1.tr jf) (i2.tr (mdO.fr j1 (by simp [sMP]))) (by rw [(j1 10009909 0 (by simp [sMP])).1]; exact i3) (fun i hi => ⟨by rw [(j1 20017383 0 (by simp [sMP])).1]; exact (i4 i hi).2, j2 i hi⟩) (fun u hu => ?_) hh _ _ _ _ _
        rw [(j1 20016377 0 (by simp [sMP])).1]
        by_cases y : K (101 + 6 * u) = k
        · rw [if_pos y]
          by_cases x : sel K k u = true
          · rw [if_pos ⟨x, Nat.zero_le _⟩]
          · rw [if_neg (fun v => x v.1), i5 u hu, if_pos ⟨y, hu⟩]
            unfold cld
            rw [y, if_neg x]
            exact fuV (fun z => x (by simp [sel, y, z]))
        · rw [if_neg y, i5 u hu, if_neg (fun v => y v.1)]
      refine pr_iload 207 dX9_closes_205 rfl rfl ?_
      refine pr_aload_n 208 dX9_closes_207 rfl rfl rfl ?_
      refine pr_invD0 211 dX9_closes_208 vX9_173 mX9_trips (sp_X9_trips h1) ⟨Nat.le_of_ble_eq_true rfl, Nat.le_of_ble_eq_true rfl⟩ (Nat.le_of_ble_eq_true rfl) rfl ?_
      refine pr_icmp_ge 247 214 dX9_closes_211 rfl rfl (fun c_211 => ?_) (fun c_211 => absurd (Int32.le_refl _) (c_211))
      refine pr_aload_n 248 dX9_closes_247 rfl rfl rfl ?_
      refine pr_iload 250 dX9_closes_248 rfl rfl ?_
      refine pr_if_eq 260 253 dX9_closes_250 rfl rfl (fun c_250 => ?_) (fun c_250 => ?_)
      · rw [hkz] at c_250
        refine pr_iload 262 dX9_closes_260 rfl rfl ?_
        rw [show bgt K k = K k from if_neg c_250] at pt
        exact pt
      · rw [hkz, Decidable.not_not] at c_250
        have hle : tld K k ≤ K k := by
          have := c_250
          simp [kpt] at this
          exact this.2
        refine pr_iload 255 dX9_closes_253 rfl rfl ?_
        refine pr_iload_n 256 dX9_closes_255 rfl rfl rfl ?_
        refine pr_isub 257 dX9_closes_256 rfl ?_
        rw [nI_subN hle]
        refine pr_goto 262 dX9_closes_257 rfl ?_
        rw [show bgt K k = K k - tld K k from if_pos c_250] at pt
        exact pt
    | succ j ih =>
      intro t mem hj i1 i2 i3 i4 i5 hh a2 a4
      have h1 := h.fr i1 (by simp [sMC])
      obtain ⟨a1, a2', -⟩ := hW.2.2.2.2.2.2.2.2.1 t (by omega)
      refine pr_iload 207 dX9_closes_205 rfl rfl ?_
      refine pr_aload_n 208 dX9_closes_207 rfl rfl rfl ?_
      refine pr_invD0 211 dX9_closes_208 vX9_173 mX9_trips (sp_X9_trips h1) ⟨Nat.le_of_ble_eq_true rfl, Nat.le_of_ble_eq_true rfl⟩ (Nat.le_of_ble_eq_true rfl) rfl ?_
      refine pr_icmp_ge 247 214 dX9_closes_211 rfl rfl (fun c_211 => absurd (c_211) (nI_ge (by omega) (by omega))) (fun c_211 => ?_)
      refine pr_aload_n 215 dX9_closes_214 rfl rfl rfl ?_
      refine pr_iload 217 dX9_closes_215 rfl rfl ?_
      refine pr_iconst (0) 218 dX9_closes_217 (by decide) rfl ?_
      refine pr_invD2 221 dX9_closes_218 vX9_182 mX9_its (sp_its0 h1 t (by omega)) ⟨Nat.le_of_ble_eq_true rfl, Nat.le_of_ble_eq_true rfl⟩ (Nat.le_of_ble_eq_true rfl) rfl ?_
      refine pr_iload_n 222 dX9_closes_221 rfl rfl rfl ?_
      refine pr_icmp_ne 241 225 dX9_closes_222 rfl rfl (fun c_222 => ?_) (fun c_222 => ?_)
      · rw [nI_eq (by omega) (by omega)] at c_222
        refine pr_iinc 244 dX9_closes_241 rfl (by first | exact pm_inc _ | rfl) (pm_st_8 rfl rfl) rfl ?_
        refine pr_goto 205 dX9_closes_244 rfl ?_
        refine ih (t + 1) mem (by omega) i1 i2 i3 i4 (fun u hu => ?_) hh _ _
        rw [i5 u hu]
        by_cases y : K (101 + 6 * u) = k ∧ u < t
        · rw [if_pos y, if_pos ⟨y.1, by omega⟩]
        · rw [if_neg y, if_neg (fun v => y ⟨v.1, by
            rcases Nat.lt_or_ge u t with q | q
            · exact q
            · exfalso
              have : u = t := by omega
              subst this; exact c_222 v.1⟩)]
      · rw [nI_eq (by omega) (by omega)] at c_222
        refine pr_aload_n 226 dX9_closes_225 rfl rfl rfl ?_
        refine pr_getR0 229 dX9_closes_226 fX9_79 rfl ?_
        refine pr_iload 231 dX9_closes_229 rfl rfl ?_
        refine pr_aload_n 232 dX9_closes_231 rfl rfl rfl ?_
        refine pr_getR0 235 dX9_closes_232 fX9_64 rfl ?_
        refine pr_iconst (4) 236 dX9_closes_235 (by decide) rfl ?_
        refine pr_iload 238 dX9_closes_236 rfl rfl ?_
        refine pr_iadd 239 dX9_closes_238 rfl ?_
        refine pr_iaload (4 + t) 240 dX9_closes_239 rfl rfl (nI_add 4 t) (by omega) rfl ?_
        rw [h1.2 t (by omega)]
        refine pr_iastore t 241 dX9_closes_240 rfl rfl rfl (by omega) rfl ?_
        refine pr_iinc 244 dX9_closes_241 rfl (by first | exact pm_inc _ | rfl) (pm_st_8 rfl rfl) rfl ?_
        refine pr_goto 205 dX9_closes_244 rfl ?_
        refine ih (t + 1) _ (by omega) (i1.uI ⟨by simp, rfl⟩) (i2.uI (by decide)) (by rw [pm_gIn (by simp)]; exact i3) (fun i hi => by rw [pm_gJI, pm_gIn (by simp)]; exact i4 i hi) (fun u hu => ?_) hh _ _
        by_cases z : u = t
        · subst z
          rw [pm_gIe, if_pos ⟨c_222, by omega⟩]
        · rw [pm_gIn (fun y => z y.2.2), i5 u hu]
          by_cases y : K (101 + 6 * u) = k ∧ u < t
          · rw [if_pos y, if_pos ⟨y.1, by omega⟩]
          · rw [if_neg y, if_neg (fun v => y ⟨v.1, by omega⟩)]
  -- the first loop
  have lpA : ∀ j t, t + j = K 40 → PR cX9_closes RX9 9 2 44 10 [some (pR 10009909 0), some (pI (nI k)), some (pI (nI (sm (fun t => if K (101 + 6 * t) = k ∧ K (4 + t) = 0 then est K t else 0) t))), some (pI (nI (sm (fun t => if K (101 + 6 * t) = k ∧ ¬ K (4 + t) = 0 then K (4 + t) - 1 else 0) t))), some (pI (nI (sm (fun t => if K (101 + 6 * t) = k then 1 else 0) t))), some (pI (nI t)), none, none, none] [] mem0 (pm_RX cX9_closes none (fun r mem => r = none ∧ pm_fr sMC mem0 mem ∧ mdO mem0 mem ∧ mem.1 10009909 0 28 = nI (op + if hasT K k = true then 0 else K k) ∧ ∀ u, u < K 40 → mem.1 20016377 0 u = if K (101 + 6 * u) = k then nI (cld K u) else mem0.1 20016377 0 u)) := by
    intro j
    induction j with
    | zero =>
      intro t hj
      have e : t = K 40 := by omega
      subst e
      have cz : nI (mis K k) ≤ 0 ↔ mis K k ≤ 0 := by rw [show (0 : Int32) = nI 0 from rfl, nI_leI (by omega) (by omega)]
      have oz : nI (sm (fun t => if K (101 + 6 * t) = k then 1 else 0) (K 40)) = 0 ↔ hasT K k = false := by
        rw [show (0 : Int32) = nI 0 from rfl, nI_eq (by omega) (by omega)]
        unfold hasT
        rw [decide_eq_false_iff_not]
        omega
      have main : hasT K k = true → PR cX9_closes RX9 9 2 44 121 [some (pR 10009909 0), some (pI (nI k)), some (pI (nI (mis K k))), some (pI (nI (tld K k))), some (pI (nI (sm (fun t => if K (101 + 6 * t) = k then 1 else 0) (K 40)))), some (pI (nI (K k))), none, none, none] [pI (if kpt K k = true then 1 else 0)] mem0 (pm_RX cX9_closes none (fun r mem => r = none ∧ pm_fr sMC mem0 mem ∧ mdO mem0 mem ∧ mem.1 10009909 0 28 = nI (op + if hasT K k = true then 0 else K k) ∧ ∀ u, u < K 40 → mem.1 20016377 0 u = if K (101 + 6 * u) = k then nI (cld K u) else mem0.1 20016377 0 u)) := by
        intro hh
        refine pr_istore 123 dX9_closes_121 (pm_st_6 rfl rfl) rfl ?_
        refine pr_iconst (0) 124 dX9_closes_123 (by decide) rfl ?_
        refine pr_istore 126 dX9_closes_124 (pm_st_7 rfl rfl) rfl ?_
        refine pr_iconst (0) 127 dX9_closes_126 (by decide) rfl ?_
        refine pr_istore 129 dX9_closes_127 (pm_st_8 rfl rfl) rfl ?_
        refine lp_X9_closesB h hW (by omega) (fun mem hi => ?_) (K 40) 0 mem0 (by omega) ⟨pm_fr.rf, rfl, rfl, rfl, fun j hj => absurd hj (Nat.not_lt_zero _)⟩
        obtain ⟨i1, i2, i3, i4, i5⟩ := hi
        refine pr_iconst (0) 203 dX9_closes_202 (by decide) rfl ?_
        refine pr_istore 205 dX9_closes_203 (pm_st_8 rfl rfl) rfl ?_
        exact lpC (K 40) 0 mem (by omega) i1 ⟨fun z _ => by rw [i2], i3⟩ (by rw [i2]; exact ho) i5 (fun u hu => by rw [if_neg (fun v => absurd v.2 (Nat.not_lt_zero _)), i4]) hh _ _
      refine pr_iload 12 dX9_closes_10 rfl rfl ?_
      refine pr_aload_n 13 dX9_closes_12 rfl rfl rfl ?_
      refine pr_invD0 16 dX9_closes_13 vX9_173 mX9_trips (sp_X9_trips h) ⟨Nat.le_of_ble_eq_true rfl, Nat.le_of_ble_eq_true rfl⟩ (Nat.le_of_ble_eq_true rfl) rfl ?_
      refine pr_icmp_ge 79 19 dX9_closes_16 rfl rfl (fun c_16 => ?_) (fun c_16 => absurd (Int32.le_refl _) (c_16))
      refine pr_aload_n 80 dX9_closes_79 rfl rfl rfl ?_
      refine pr_getR0 83 dX9_closes_80 fX9_64 rfl ?_
      refine pr_iconst (0) 84 dX9_closes_83 (by decide) rfl ?_
      refine pr_iload_n 85 dX9_closes_84 rfl rfl rfl ?_
      refine pr_iadd 86 dX9_closes_85 rfl ?_
      refine pr_iaload (0 + k) 87 dX9_closes_86 rfl rfl (nI_add 0 k) (by omega) rfl ?_
      rw [Nat.zero_add, h.1 k (by omega) (by omega)]
      refine pr_istore 89 dX9_closes_87 (pm_st_5 rfl rfl) rfl ?_
      refine pr_iload 91 dX9_closes_89 rfl rfl ?_
      refine pr_if_ne 106 94 dX9_closes_91 rfl rfl (fun c_91 => ?_) (fun c_91 => ?_)
      · have hh : hasT K k = true := by
          cases hq : hasT K k with
          | true => rfl
          | false => exact absurd (oz.mpr hq) c_91
        refine pr_iload_n 107 dX9_closes_106 rfl rfl rfl ?_
        refine pr_if_le 120 110 dX9_closes_107 rfl rfl (fun c_107 => ?_) (fun c_107 => ?_)
        · rw [show sm (fun t => if K (101 + 6 * t) = k ∧ K (4 + t) = 0 then est K t else 0) (K 40) = mis K k from rfl, cz] at c_107
          refine pr_iconst (0) 121 dX9_closes_120 (by decide) rfl ?_
          have := main hh
          rw [if_neg (by simp [kpt]; omega)] at this
          exact this
        · rw [show sm (fun t => if K (101 + 6 * t) = k ∧ K (4 + t) = 0 then est K t else 0) (K 40) = mis K k from rfl, cz] at c_107
          refine pr_iload_n 111 dX9_closes_110 rfl rfl rfl ?_
          refine pr_iload 113 dX9_closes_111 rfl rfl ?_
          refine pr_icmp_gt 120 116 dX9_closes_113 rfl rfl (fun c_113 => ?_) (fun c_113 => ?_)
          · rw [show sm (fun t => if K (101 + 6 * t) = k ∧ ¬ K (4 + t) = 0 then K (4 + t) - 1 else 0) (K 40) = tld K k from rfl, nI_ltI (by omega) (by omega)] at c_113
            refine pr_iconst (0) 121 dX9_closes_120 (by decide) rfl ?_
            have := main hh
            rw [if_neg (by simp [kpt]; omega)] at this
            exact this
          · rw [show sm (fun t => if K (101 + 6 * t) = k ∧ ¬ K (4 + t) = 0 then K (4 + t) - 1 else 0) (K 40) = tld K k from rfl, nI_ltI (by omega) (by omega)] at c_113
            refine pr_iconst (1) 117 dX9_closes_116 (by decide) rfl ?_
            refine pr_goto 121 dX9_closes_117 rfl ?_
            have := main hh
            rw [if_pos (by simp [kpt]; omega)] at this
            exact this
      · have hh := oz.mp c_91
        refine pr_aload_n 95 dX9_closes_94 rfl rfl rfl ?_
        refine pr_dup rfl 96 dX9_closes_95 rfl ?_
        refine pr_getI 99 dX9_closes_96 fX9_195 rfl ?_
        rw [ho]
        refine pr_iload 101 dX9_closes_99 rfl rfl ?_
        refine pr_iadd 102 dX9_closes_101 rfl ?_
        rw [nI_add]
        refine pr_putI 105 dX9_closes_102 fX9_195 rfl ?_
        refine pr_return dX9_closes_105 rfl ?_
        refine ⟨rfl, pm_fr.rf.uI ⟨by simp, rfl⟩, mdO.rf.uO, by rw [pm_gIe, if_neg (by rw [hh]; decide)], fun u hu => ?_⟩
        have hu2 : ¬ K (101 + 6 * u) = k := fun z => by
          have : hasT K k = true := by
            unfold hasT
            have := sm_one (f := fun t => if K (101 + 6 * t) = k then 1 else 0) hu
            simp only [z, if_true] at this
            exact decide_eq_true (by omega)
          rw [hh] at this
          cases this
        rw [pm_gIn (by simp), if_neg hu2]
    | succ j ih =>
      intro t hj
      obtain ⟨a1, a2', -⟩ := hW.2.2.2.2.2.2.2.2.1 t (by omega)
      have heb := est_le hW (t := t) (by omega)
      refine pr_iload 12 dX9_closes_10 rfl rfl ?_
      refine pr_aload_n 13 dX9_closes_12 rfl rfl rfl ?_
      refine pr_invD0 16 dX9_closes_13 vX9_173 mX9_trips (sp_X9_trips h) ⟨Nat.le_of_ble_eq_true rfl, Nat.le_of_ble_eq_true rfl⟩ (Nat.le_of_ble_eq_true rfl) rfl ?_
      refine pr_icmp_ge 79 19 dX9_closes_16 rfl rfl (fun c_16 => absurd (c_16) (nI_ge (by omega) (by omega))) (fun c_16 => ?_)
      refine pr_aload_n 20 dX9_closes_19 rfl rfl rfl ?_
      refine pr_iload 22 dX9_closes_20 rfl rfl ?_
      refine pr_iconst (0) 23 dX9_closes_22 (by decide) rfl ?_
      refine pr_invD2 26 dX9_closes_23 vX9_182 mX9_its (sp_its0 h t (by omega)) ⟨Nat.le_of_ble_eq_true rfl, Nat.le_of_ble_eq_true rfl⟩ (Nat.le_of_ble_eq_true rfl) rfl ?_
      refine pr_iload_n 27 dX9_closes_26 rfl rfl rfl ?_
      refine pr_icmp_eq 33 30 dX9_closes_27 rfl rfl (fun c_27 => ?_) (fun c_27 => ?_)
      · rw [nI_eq (by omega) (by omega)] at c_27
        refine pr_iinc 36 dX9_closes_33 rfl (by first | exact pm_inc _ | rfl) (pm_st_4 rfl rfl) rfl ?_
        refine pr_aload_n 37 dX9_closes_36 rfl rfl rfl ?_
        refine pr_getR0 40 dX9_closes_37 fX9_64 rfl ?_
        refine pr_iconst (4) 41 dX9_closes_40 (by decide) rfl ?_
        refine pr_iload 43 dX9_closes_41 rfl rfl ?_
        refine pr_iadd 44 dX9_closes_43 rfl ?_
        refine pr_iaload (4 + t) 45 dX9_closes_44 rfl rfl (nI_add 4 t) (by omega) rfl ?_
        rw [h.2 t (by omega)]
        refine pr_iconst (-1) 46 dX9_closes_45 (by decide) rfl ?_
        refine pr_icmp_ne 61 49 dX9_closes_46 rfl rfl (fun c_46 => ?_) (fun c_46 => ?_)
        · rw [fuI a1] at c_46
          refine pr_iload_n 62 dX9_closes_61 rfl rfl rfl ?_
          refine pr_aload_n 63 dX9_closes_62 rfl rfl rfl ?_
          refine pr_getR0 66 dX9_closes_63 fX9_64 rfl ?_
          refine pr_iconst (4) 67 dX9_closes_66 (by decide) rfl ?_
          refine pr_iload 69 dX9_closes_67 rfl rfl ?_
          refine pr_iadd 70 dX9_closes_69 rfl ?_
          refine pr_iaload (4 + t) 71 dX9_closes_70 rfl rfl (nI_add 4 t) (by omega) rfl ?_
          rw [h.2 t (by omega), fuV c_46]
          refine pr_iadd 72 dX9_closes_71 rfl ?_
          rw [nI_add]
          refine pr_istore_n 73 dX9_closes_72 rfl (pm_st_3 rfl rfl) rfl ?_
          refine pr_iinc 76 dX9_closes_73 rfl (by first | exact pm_inc _ | rfl) (pm_st_5 rfl rfl) rfl ?_
          refine pr_goto 10 dX9_closes_76 rfl ?_
          have := ih (t + 1) (by omega)
          rw [sm, sm, sm, if_neg (fun z => c_46 z.2), if_pos ⟨c_27, c_46⟩, if_pos c_27] at this
          exact this
        · rw [fuI a1] at c_46
          refine pr_iload_n 50 dX9_closes_49 rfl rfl rfl ?_
          refine pr_aload_n 51 dX9_closes_50 rfl rfl rfl ?_
          refine pr_iload 53 dX9_closes_51 rfl rfl ?_
          refine pr_invD1 56 dX9_closes_53 vX9_192 mX9_estimateOf (sp_X9_estimateOf h hW (t := t) (by omega)) ⟨Nat.le_of_ble_eq_true rfl, Nat.le_of_ble_eq_true rfl⟩ (Nat.le_of_ble_eq_true rfl) rfl ?_
          refine pr_iadd 57 dX9_closes_56 rfl ?_
          rw [nI_add]
          refine pr_istore_n 58 dX9_closes_57 rfl (pm_st_2 rfl rfl) rfl ?_
          refine pr_goto 73 dX9_closes_58 rfl ?_
          refine pr_iinc 76 dX9_closes_73 rfl (by first | exact pm_inc _ | rfl) (pm_st_5 rfl rfl) rfl ?_
          refine pr_goto 10 dX9_closes_76 rfl ?_
          have := ih (t + 1) (by omega)
          rw [sm, sm, sm, if_pos ⟨c_27, c_46⟩, if_neg (fun z => z.2 c_46), if_pos c_27] at this
          exact this
      · rw [nI_eq (by omega) (by omega)] at c_27
        refine pr_goto 73 dX9_closes_30 rfl ?_
        refine pr_iinc 76 dX9_closes_73 rfl (by first | exact pm_inc _ | rfl) (pm_st_5 rfl rfl) rfl ?_
        refine pr_goto 10 dX9_closes_76 rfl ?_
        have := ih (t + 1) (by omega)
        rw [sm, sm, sm, if_neg (fun z => c_27 z.1), if_neg (fun z => c_27 z.1), if_neg c_27] at this
        exact this
  refine Cl.of (own := RX9) rfl rfl (Nat.le_of_ble_eq_true rfl) rfl ?_; show PR _ _ _ _ _ _ [some _, some _, none, none, none, none, none, none, none] _ _ _
  refine pr_iconst (0) 1 dX9_closes_0 (by decide) rfl ?_
  refine pr_istore_n 2 dX9_closes_1 rfl (pm_st_2 rfl rfl) rfl ?_
  refine pr_iconst (0) 3 dX9_closes_2 (by decide) rfl ?_
  refine pr_istore_n 4 dX9_closes_3 rfl (pm_st_3 rfl rfl) rfl ?_
  refine pr_iconst (0) 5 dX9_closes_4 (by decide) rfl ?_
  refine pr_istore 7 dX9_closes_5 (pm_st_4 rfl rfl) rfl ?_
  refine pr_iconst (0) 8 dX9_closes_7 (by decide) rfl ?_
  refine pr_istore 10 dX9_closes_8 (pm_st_5 rfl rfl) rfl ?_
  exact lpA (K 40) 0 (by omega)
end MCL
