/-! the reference: a trip's line -/
theorem up_up {K : Nat → Nat} {k a b : Nat} : up (up K k a) k b = up K k b := by
  funext j
  unfold up
  by_cases z : j = k
  · rw [if_pos z, if_pos z]
  · rw [if_neg z, if_neg z, if_neg z]
theorem up_ne {K : Nat → Nat} {k j v : Nat} (h : ¬ j = k) : up K k v j = K j := by rw [up, if_neg h]
theorem up_eq {K : Nat → Nat} {k v : Nat} : up K k v k = v := by rw [up, if_pos rfl]
/-- in a trip's line, behind its numbers -/
def tpS (s : RS) (t : Nat) : Prop := s.w = 9 ∧ s.f.length = 3 ∧ s.K 40 = t ∧ t < 16 ∧ s.K 37 ≤ 12 ∧ s.K 39 ≤ 16 ∧ s.K (105 + 6 * t) < s.K 37 ∧ (∀ q, q < 12 → s.K (41 + q) ≤ 99 ∧ s.K (53 + q) ≤ 99) ∧ s.on < 65536
def swS (s : RS) (k : Nat) : RS := mkS s.K s.ln s.w s.f s.on k s.sn s.sf s.se
theorem stp_t {s : RS} {t k v : Nat} (h : tpS s t) (hw : s.sw = 0) : stp s k v = if k = 11 ∨ k = 12 ∨ k = 13 then .ok (swS s k) else if k = 3 then (if s.on = 0 then .ok (endL s) else .error 3) else .error 1 := by
  obtain ⟨a, b, -⟩ := h
  rw [stp, if_neg (by omega), if_neg (by rw [a, b]; decide), if_pos a, if_neg (by omega)]
  rfl
theorem stp_n {s : RS} {t k v : Nat} (h : tpS s t) (hw : ¬ s.sw = 0) : stp s k v = (if ¬ k = 2 then .error 1
      else if ¬ v < (if s.sw = 11 then s.K 37 else s.K 39) then .error 3
      else if s.sw = 12 ∧ (s.K (106 + 6 * s.K 40)).testBit v = true then .error 3
      else if s.sw = 13 ∧ ¬ s.on.testBit v = true then .error 3
      else .ok (stpN s v)) := by
  obtain ⟨a, b, -⟩ := h
  rw [stp, if_neg (by omega), if_neg (by rw [a, b]; decide), if_pos a, if_pos hw]
theorem tpS.sw {s : RS} {t k : Nat} (h : tpS s t) : tpS (swS s k) t := h
theorem xor_lt {a v : Nat} (ha : a < 65536) (hv : v < 16) : a ^^^ 2 ^ v < 65536 := by
  have : 2 ^ v < 2 ^ 16 := Nat.pow_lt_pow_right (by omega) hv
  exact Nat.xor_lt_two_pow (n := 16) ha this
theorem tpS.leg {s : RS} {t v : Nat} (h : tpS s t) (hs : s.sw = 11) (hv : v < s.K 37) : tpS (stpN s v) t := by
  obtain ⟨a1, a2, a3, a4, a5, a6, a7, a8, a9⟩ := h
  have eK : (stpN s v).K = legK s.K (s.K 40) s.on v := by show (if s.sw = 11 then _ else _) = _; rw [if_pos hs]
  have eo : (stpN s v).on = s.on := by show (if s.sw = 11 then _ else _) = _; rw [if_pos hs]
  refine ⟨a1, a2, ?_, a4, ?_, ?_, ?_, fun q hq => ?_, by rw [eo]; exact a9⟩
  · rw [eK, legK_lo (by omega)]; exact a3
  · rw [eK, legK_lo (by omega)]; exact a5
  · rw [eK, legK_lo (by omega)]; exact a6
  · rw [eK, legK_lo (k := 37) (by omega), a3]
    show (if 105 + 6 * t = 105 + 6 * t then v else _) < _
    rw [if_pos rfl]
    exact hv
  · rw [eK, legK_lo (by omega), legK_lo (by omega)]; exact a8 q hq
theorem tpS.ld {s : RS} {t v : Nat} (h : tpS s t) (hs : s.sw = 12 ∨ s.sw = 13) (hv : v < 16) : tpS (stpN s v) t := by
  obtain ⟨a1, a2, a3, a4, a5, a6, a7, a8, a9⟩ := h
  have eK : ∀ k, (k < 101 ∨ k = 105 + 6 * t) → (stpN s v).K k = s.K k := by
    intro k hk
    show (if s.sw = 11 then legK s.K (s.K 40) s.on v else if s.sw = 12 then onK s.K (s.K 40) v else offK s.K (s.K 40) v) k = _
    rw [if_neg (by omega), a3]
    by_cases z : s.sw = 12
    · rw [if_pos z, onK, up_ne (by omega), up_ne (by omega)]
    · rw [if_neg z, offK, up_ne (by omega), up_ne (by omega)]
  have eo : (stpN s v).on = s.on ^^^ 2 ^ v := by show (if s.sw = 11 then _ else _) = _; rw [if_neg (by omega)]
  refine ⟨a1, a2, by rw [eK _ (by omega)]; exact a3, a4, by rw [eK _ (by omega)]; exact a5, by rw [eK _ (by omega)]; exact a6, by rw [eK _ (by omega), eK _ (by omega)]; exact a7, fun q hq => ?_, ?_⟩
  · rw [eK _ (by omega), eK _ (by omega)]; exact a8 q hq
  · rw [eo]; exact xor_lt a9 hv
theorem stp_11 {s : RS} {t k v : Nat} (h : tpS s t) : stp (swS s 11) k v = if ¬ k = 2 then .error 1 else if ¬ v < s.K 37 then .error 3 else .ok (stpN (swS s 11) v) := by
  rw [stp_n h.sw (show ¬ (11 : Nat) = 0 by decide)]
  show (if ¬ k = 2 then Except.error 1 else if ¬ v < (if (11 : Nat) = 11 then s.K 37 else s.K 39) then .error 3 else if (11 : Nat) = 12 ∧ (s.K (106 + 6 * s.K 40)).testBit v = true then .error 3 else if (11 : Nat) = 13 ∧ ¬ s.on.testBit v = true then .error 3 else .ok (stpN (swS s 11) v)) = _
  rw [if_pos rfl, if_neg (show ¬ ((11 : Nat) = 12 ∧ _) from fun z => absurd z.1 (by decide)), if_neg (show ¬ ((11 : Nat) = 13 ∧ _) from fun z => absurd z.1 (by decide))]
theorem stp_12 {s : RS} {t k v : Nat} (h : tpS s t) : stp (swS s 12) k v = if ¬ k = 2 then .error 1 else if ¬ v < s.K 39 then .error 3 else if (s.K (106 + 6 * t)).testBit v = true then .error 3 else .ok (stpN (swS s 12) v) := by
  rw [stp_n h.sw (show ¬ (12 : Nat) = 0 by decide), ← h.2.2.1]
  show (if ¬ k = 2 then Except.error 1 else if ¬ v < (if (12 : Nat) = 11 then s.K 37 else s.K 39) then .error 3 else if (12 : Nat) = 12 ∧ (s.K (106 + 6 * s.K 40)).testBit v = true then .error 3 else if (12 : Nat) = 13 ∧ ¬ s.on.testBit v = true then .error 3 else .ok (stpN (swS s 12) v)) = _
  rw [if_neg (show ¬ (12 : Nat) = 11 by decide), if_neg (show ¬ ((12 : Nat) = 13 ∧ _) from fun z => absurd z.1 (by decide))]
  by_cases z : (s.K (106 + 6 * s.K 40)).testBit v = true
  · rw [if_pos (show (12 : Nat) = 12 ∧ _ from ⟨rfl, z⟩), if_pos z]
  · rw [if_neg (show ¬ ((12 : Nat) = 12 ∧ _) from fun y => z y.2), if_neg z]
theorem stp_13 {s : RS} {t k v : Nat} (h : tpS s t) : stp (swS s 13) k v = if ¬ k = 2 then .error 1 else if ¬ v < s.K 39 then .error 3 else if ¬ s.on.testBit v = true then .error 3 else .ok (stpN (swS s 13) v) := by
  rw [stp_n h.sw (show ¬ (13 : Nat) = 0 by decide)]
  show (if ¬ k = 2 then Except.error 1 else if ¬ v < (if (13 : Nat) = 11 then s.K 37 else s.K 39) then .error 3 else if (13 : Nat) = 12 ∧ (s.K (106 + 6 * s.K 40)).testBit v = true then .error 3 else if (13 : Nat) = 13 ∧ ¬ s.on.testBit v = true then .error 3 else .ok (stpN (swS s 13) v)) = _
  rw [if_neg (show ¬ (13 : Nat) = 11 by decide), if_neg (show ¬ ((13 : Nat) = 12 ∧ _) from fun z => absurd z.1 (by decide))]
  by_cases z : ¬ s.on.testBit v = true
  · rw [if_pos (show (13 : Nat) = 13 ∧ _ from ⟨rfl, z⟩), if_pos z]
  · rw [if_neg (show ¬ ((13 : Nat) = 13 ∧ _) from fun y => z y.2), if_neg z]
section MTP
variable {mem mem0 : pm_M} {T p : Nat} {B : Nat → Nat} {s : RS}
theorem rowR.cg {K K' : Nat → Nat} (h : rowR 20869372 mem K) (e : K = K') : rowR 20869372 mem K' := e ▸ h
set_option maxRecDepth 100000 in
theorem lp_end {t : Nat} {s0 : RS} {p0 : Nat} {a3 a4 a6 a7 a8 : Option pm_v} (hk : tK B T p < 4) (hp : p ≤ T) (hS : tpS s t) (hsw : s.sw = 0) (hln : s.ln = s0.ln) (hR : Rt B T s0 p0 s p) (hF : lnG false mem0 mem) (hr : rowR 20869372 mem s.K) (hm : mtk mem B T p) : PR cX9_readTrip RX9 9 4 89 162 [some (pR 10009909 0), some (pI (nI t)), some (pI (nI (101 + 6 * t))), a3, a4, some (pI (nI s.on)), a6, a7, a8] [] mem (pm_RX cX9_readTrip (some .boolean) (fun r mem => ∃ x, r = some (pI x) ∧ LQ mem0 B T s0 p0 x mem)) := by
  have hm2 : ¬ nI (msort (tK B T p) T) = 2 := by
    unfold msort
    repeat' split
    all_goals first | decide | omega
  have h40 := hS.2.2.1
  have ht := hS.2.2.2.1
  have hon := hS.2.2.2.2.2.2.2.2
  -- all is well so far
  have fin : ¬ (tK B T p = 3 ∧ ¬ s.on = 0) → PR cX9_readTrip RX9 9 4 89 430 [some (pR 10009909 0), some (pI (nI t)), some (pI (nI (101 + 6 * t))), a3, a4, some (pI (nI s.on)), a6, a7, a8] [] mem (pm_RX cX9_readTrip (some .boolean) (fun r mem => ∃ x, r = some (pI x) ∧ LQ mem0 B T s0 p0 x mem)) := by
    intro hz
    refine pr_aload_n 431 dX9_readTrip_430 rfl rfl rfl ?_
    refine pr_getR0 434 dX9_readTrip_431 fX9_67 rfl ?_
    refine pr_bipush (40) 436 dX9_readTrip_434 (by decide) rfl ?_
    refine pr_dup2 rfl rfl 437 dX9_readTrip_436 rfl ?_
    refine pr_iaload 40 438 dX9_readTrip_437 rfl rfl rfl (by omega) rfl ?_
    rw [hr.1 40 (by omega) (by omega)]
    refine pr_iconst (1) 439 dX9_readTrip_438 (by decide) rfl ?_
    refine pr_iadd 440 dX9_readTrip_439 rfl ?_
    rw [nI_1]
    refine pr_iastore 40 441 dX9_readTrip_440 rfl rfl rfl (by omega) rfl ?_
    refine pr_iconst (1) 442 dX9_readTrip_441 (by decide) rfl ?_
    refine pr_zreturn dX9_readTrip_442 rfl (by first | exact Or.inl rfl | exact Or.inr rfl) ?_
    refine ⟨1, rfl, hF.u, Or.inl ⟨rfl, s, p, hR, ?_, hm.u, hp, by rw [hS.1]; decide, hln, fun a => ?_, fun a b => ?_⟩⟩
    · refine (hr.w (k := 40) (v := s.K 40 + 1) (by omega) (by rw [cdI, if_neg (by omega)])).cg ?_
      unfold endK
      rw [hS.1]
      rfl
    · rw [stp_t hS hsw, if_neg (by omega), if_pos rfl, if_pos (by omega)]
    · rw [stp_t hS hsw, if_neg (by omega), if_neg a]
  by_cases k3 : tK B T p = 3
  · have hms : msort (tK B T p) T = 4 := by rw [k3]; rfl
    by_cases ho : s.on = 0
    · refine pr_aload_n 163 dX9_readTrip_162 rfl rfl rfl ?_
      refine pr_getI 166 dX9_readTrip_163 fX9_27 rfl ?_
      rw [hm.1]
      refine pr_iconst (2) 167 dX9_readTrip_166 (by decide) rfl ?_
      refine pr_icmp_ne 411 170 dX9_readTrip_167 rfl rfl (fun c_167 => ?_) (fun c_167 => absurd (c_167) (hm2))
      refine pr_aload_n 412 dX9_readTrip_411 rfl rfl rfl ?_
      refine pr_getI 415 dX9_readTrip_412 fX9_27 rfl ?_
      rw [hm.1]
      refine pr_iconst (4) 416 dX9_readTrip_415 (by decide) rfl ?_
      refine pr_icmp_ne 430 419 dX9_readTrip_416 rfl rfl (fun c_416 => absurd (by rw [hms]; rfl) (c_416)) (fun c_416 => ?_)
      refine pr_iload 421 dX9_readTrip_419 rfl rfl ?_
      refine pr_if_eq 430 424 dX9_readTrip_421 rfl rfl (fun c_421 => ?_) (fun c_421 => absurd (by rw [ho]; rfl) (c_421))
      exact fin (fun z => z.2 ho)
    · refine pr_aload_n 163 dX9_readTrip_162 rfl rfl rfl ?_
      refine pr_getI 166 dX9_readTrip_163 fX9_27 rfl ?_
      rw [hm.1]
      refine pr_iconst (2) 167 dX9_readTrip_166 (by decide) rfl ?_
      refine pr_icmp_ne 411 170 dX9_readTrip_167 rfl rfl (fun c_167 => ?_) (fun c_167 => absurd (c_167) (hm2))
      refine pr_aload_n 412 dX9_readTrip_411 rfl rfl rfl ?_
      refine pr_getI 415 dX9_readTrip_412 fX9_27 rfl ?_
      rw [hm.1]
      refine pr_iconst (4) 416 dX9_readTrip_415 (by decide) rfl ?_
      refine pr_icmp_ne 430 419 dX9_readTrip_416 rfl rfl (fun c_416 => absurd (by rw [hms]; rfl) (c_416)) (fun c_416 => ?_)
      refine pr_iload 421 dX9_readTrip_419 rfl rfl ?_
      refine pr_if_eq 430 424 dX9_readTrip_421 rfl rfl (fun c_421 => absurd (c_421) (nI_ne0 (by omega) (by omega))) (fun c_421 => ?_)
      refine pr_aload_n 425 dX9_readTrip_424 rfl rfl rfl ?_
      refine pr_iconst (3) 426 dX9_readTrip_425 (by decide) rfl ?_
      refine pr_invDR1 429 dX9_readTrip_426 vX9_110 mX9_bad (sp_X9_bad hm 3) ⟨Nat.le_of_ble_eq_true rfl, Nat.le_of_ble_eq_true rfl⟩ (Nat.le_of_ble_eq_true rfl) rfl (fun mem1 h1 => ?_)
      refine pr_zreturn dX9_readTrip_429 rfl (by first | exact Or.inl rfl | exact Or.inr rfl) ?_
      refine ⟨0, rfl, hF.tr h1.1.ln, Or.inr ⟨rfl, 3, _, hR.1 _ (Rd.bad (by omega) ?_), ?_, h1.2.2.2⟩⟩
      · rw [stp_t hS hsw, if_neg (by omega), if_pos k3, if_neg ho]
      · have := h1.2.2.1
        rw [hms] at this
        exact this
  · have hms : ¬ nI (msort (tK B T p) T) = 4 := by
      unfold msort
      repeat' split
      all_goals first | decide | omega
    refine pr_aload_n 163 dX9_readTrip_162 rfl rfl rfl ?_
    refine pr_getI 166 dX9_readTrip_163 fX9_27 rfl ?_
    rw [hm.1]
    refine pr_iconst (2) 167 dX9_readTrip_166 (by decide) rfl ?_
    refine pr_icmp_ne 411 170 dX9_readTrip_167 rfl rfl (fun c_167 => ?_) (fun c_167 => absurd (c_167) (hm2))
    refine pr_aload_n 412 dX9_readTrip_411 rfl rfl rfl ?_
    refine pr_getI 415 dX9_readTrip_412 fX9_27 rfl ?_
    rw [hm.1]
    refine pr_iconst (4) 416 dX9_readTrip_415 (by decide) rfl ?_
    refine pr_icmp_ne 430 419 dX9_readTrip_416 rfl rfl (fun c_416 => ?_) (fun c_416 => absurd (c_416) (hms))
    exact fin (fun z => k3 z.1)
set_option maxRecDepth 100000 in
theorem lp_X9_trip {t : Nat} {s0 : RS} {p0 : Nat} {a3 : Option pm_v} (hB : ∀ k, B k < 256) : ∀ n p s mem (z4 : Int32) (a6 a7 a8 : Option pm_v), T - p < n → p ≤ T → tpS s t → s.sw = 0 → s.ln = s0.ln → Rt B T s0 p0 s p → lnG false mem0 mem → txM mem T B → rowR 20869372 mem s.K → mtk mem B T p → PR cX9_readTrip RX9 9 4 89 162 [some (pR 10009909 0), some (pI (nI t)), some (pI (nI (101 + 6 * t))), a3, some (pI z4), some (pI (nI s.on)), a6, a7, a8] [] mem (pm_RX cX9_readTrip (some .boolean) (fun r mem => ∃ x, r = some (pI x) ∧ LQ mem0 B T s0 p0 x mem)) := by
  intro n
  induction n with
  | zero => intro p s mem z4 a6 a7 a8 hn; omega
  | succ n ih =>
    intro p s mem z4 a6 a7 a8 hn hp hS hsw hln hR hF hx hr hm
    by_cases h4 : tK B T p < 4
    · exact lp_end h4 hp hS hsw hln hR hF hr hm
    have hN := tN_bd hp (by omega : 2 ≤ tK B T p)
    have h40 := hS.2.2.1
    have ht := hS.2.2.2.1
    have h37 := hS.2.2.2.2.1
    have h39 := hS.2.2.2.2.2.1
    have h105 := hS.2.2.2.2.2.2.1
    have hon := hS.2.2.2.2.2.2.2.2
    have hms : msort (tK B T p) T = 2 := by rw [msort, if_neg (by omega), if_neg (by omega), if_neg (by omega), if_neg (by omega)]
    rcases (by omega : tK B T p = 11 ∨ tK B T p = 12 ∨ tK B T p = 13 ∨ ¬ (tK B T p = 11 ∨ tK B T p = 12 ∨ tK B T p = 13)) with hk | hk | hk | hk
    · -- to
      have hst : stp s (tK B T p) (tV B T p) = .ok (swS s 11) := by rw [stp_t hS hsw, if_pos (by omega), hk]
      have R1 : Rt B T s0 p0 (swS s 11) (tN B T p) := hR.tr (Rt.one (by omega) hst)
      refine pr_aload_n 163 dX9_readTrip_162 rfl rfl rfl ?_
      refine pr_getI 166 dX9_readTrip_163 fX9_27 rfl ?_
      rw [hm.1, hms]
      refine pr_iconst (2) 167 dX9_readTrip_166 (by decide) rfl ?_
      refine pr_icmp_ne 411 170 dX9_readTrip_167 rfl rfl (fun c_167 => absurd (rfl) (c_167)) (fun c_167 => ?_)
      refine pr_aload_n 171 dX9_readTrip_170 rfl rfl rfl ?_
      refine pr_bipush (111) 173 dX9_readTrip_171 (by decide) rfl ?_
      refine pr_bipush (110) 175 dX9_readTrip_173 (by decide) rfl ?_
      refine pr_iconst (0) 176 dX9_readTrip_175 (by decide) rfl ?_
      refine pr_iconst (0) 177 dX9_readTrip_176 (by decide) rfl ?_
      refine pr_iconst (0) 178 dX9_readTrip_177 (by decide) rfl ?_
      refine pr_invD5 181 dX9_readTrip_178 vX9_136 mX9_is (sp_is_on hm hB) ⟨Nat.le_of_ble_eq_true rfl, Nat.le_of_ble_eq_true rfl⟩ (Nat.le_of_ble_eq_true rfl) rfl ?_
      refine pr_istore 183 dX9_readTrip_181 (pm_st_6 rfl rfl) rfl ?_
      refine pr_aload_n 184 dX9_readTrip_183 rfl rfl rfl ?_
      refine pr_bipush (111) 186 dX9_readTrip_184 (by decide) rfl ?_
      refine pr_bipush (102) 188 dX9_readTrip_186 (by decide) rfl ?_
      refine pr_bipush (102) 190 dX9_readTrip_188 (by decide) rfl ?_
      refine pr_iconst (0) 191 dX9_readTrip_190 (by decide) rfl ?_
      refine pr_iconst (0) 192 dX9_readTrip_191 (by decide) rfl ?_
      refine pr_invD5 195 dX9_readTrip_192 vX9_136 mX9_is (sp_is_off hm hB) ⟨Nat.le_of_ble_eq_true rfl, Nat.le_of_ble_eq_true rfl⟩ (Nat.le_of_ble_eq_true rfl) rfl ?_
      refine pr_istore 197 dX9_readTrip_195 (pm_st_7 rfl rfl) rfl ?_
      refine pr_iload 199 dX9_readTrip_197 rfl rfl ?_
      refine pr_if_ne 227 202 dX9_readTrip_199 rfl rfl (fun c_199 => absurd (by rw [if_neg (by omega)]) (c_199)) (fun c_199 => ?_)
      refine pr_iload 204 dX9_readTrip_202 rfl rfl ?_
      refine pr_if_ne 227 207 dX9_readTrip_204 rfl rfl (fun c_204 => absurd (by rw [if_neg (by omega)]) (c_204)) (fun c_204 => ?_)
      refine pr_aload_n 208 dX9_readTrip_207 rfl rfl rfl ?_
      refine pr_bipush (116) 210 dX9_readTrip_208 (by decide) rfl ?_
      refine pr_bipush (111) 212 dX9_readTrip_210 (by decide) rfl ?_
      refine pr_iconst (0) 213 dX9_readTrip_212 (by decide) rfl ?_
      refine pr_iconst (0) 214 dX9_readTrip_213 (by decide) rfl ?_
      refine pr_iconst (0) 215 dX9_readTrip_214 (by decide) rfl ?_
      refine pr_invD5 218 dX9_readTrip_215 vX9_136 mX9_is (sp_is_to hm hB) ⟨Nat.le_of_ble_eq_true rfl, Nat.le_of_ble_eq_true rfl⟩ (Nat.le_of_ble_eq_true rfl) rfl ?_
      refine pr_if_ne 227 221 dX9_readTrip_218 rfl rfl (fun c_218 => ?_) (fun c_218 => absurd (c_218) (by rw [if_pos hk]; decide))
      refine pr_aload_n 228 dX9_readTrip_227 rfl rfl rfl ?_
      refine pr_inv0R0 231 dX9_readTrip_228 vX9_117 mX9_go (sp_X9_go hx.1 hx.2.1 hx.2.2.1 hx.2.2.2 hN.2.1 (hm.2.2.1 (by omega))) ⟨Nat.le_of_ble_eq_true rfl, Nat.le_of_ble_eq_true rfl⟩ (Nat.le_of_ble_eq_true rfl) rfl (fun mem1 h1 => ?_)
      obtain ⟨g1, m1⟩ := h1
      have x1 := hx.go g1
      have r1 := goF.row hr g1
      have F1 := hF.tr g1.ln
      refine pr_iload 233 dX9_readTrip_231 rfl rfl ?_
      refine pr_if_ne 267 236 dX9_readTrip_233 rfl rfl (fun c_233 => absurd (by rw [if_neg (by omega)]) (c_233)) (fun c_233 => ?_)
      refine pr_iload 238 dX9_readTrip_236 rfl rfl ?_
      refine pr_if_ne 267 241 dX9_readTrip_238 rfl rfl (fun c_238 => absurd (by rw [if_neg (by omega)]) (c_238)) (fun c_238 => ?_)
      refine pr_aload_n 242 dX9_readTrip_241 rfl rfl rfl ?_
      refine pr_invDR0 245 dX9_readTrip_242 vX9_124 mX9_toldPlace (sp_X9_toldPlace x1 m1 hN.2.1 r1) ⟨Nat.le_of_ble_eq_true rfl, Nat.le_of_ble_eq_true rfl⟩ (Nat.le_of_ble_eq_true rfl) rfl (fun mem2 h2 => ?_)
      have key : tK B T (tN B T p) = 2 → ((0 ≤ nI (tV B T (tN B T p)) ∧ nI (tV B T (tN B T p)) ≤ nI (s.K 37) - 1) ↔ tV B T (tN B T p) < s.K 37) := fun k2 => by
        have hv := tV_lt k2
        rw [Int32.le_iff_toInt_le, Int32.le_iff_toInt_le, nIm1 (by omega), nI_toInt (by omega), show (0 : Int32).toInt = 0 from rfl]
        omega
      by_cases o1 : tdOk B T (tN B T p) 0 (nI (s.K 37) - 1)
      · rw [if_pos o1]
        rw [tdP, if_pos o1] at h2
        obtain ⟨g2, m2⟩ := h2
        have k2 := o1.1
        have hv := (key k2).mp o1.2
        have hv1 := tV_lt k2
        have hN2 := tN_bd hN.2.1 (by omega : 2 ≤ tK B T (tN B T p))
        have hst2 : stp (swS s 11) (tK B T (tN B T p)) (tV B T (tN B T p)) = .ok (stpN (swS s 11) (tV B T (tN B T p))) := by
          rw [stp_11 hS, if_neg (by omega), if_neg (show ¬ ¬ tV B T (tN B T p) < s.K 37 from fun z => z hv)]
        have R2 := R1.tr (Rt.one (by omega) hst2)
        have hS2 : tpS (stpN (swS s 11) (tV B T (tN B T p))) t := hS.sw.leg rfl hv
        have r2 := goF.row r1 g2
        refine pr_istore 247 dX9_readTrip_245 (pm_st_8 rfl rfl) rfl ?_
        refine pr_iload 249 dX9_readTrip_247 rfl rfl ?_
        refine pr_iconst (-1) 250 dX9_readTrip_249 (by decide) rfl ?_
        refine pr_icmp_ne 255 253 dX9_readTrip_250 rfl rfl (fun c_250 => ?_) (fun c_250 => absurd (c_250) (nI_nm (by omega)))
        refine pr_aload_n 256 dX9_readTrip_255 rfl rfl rfl ?_
        refine pr_iload_n 257 dX9_readTrip_256 rfl rfl rfl ?_
        refine pr_iload 259 dX9_readTrip_257 rfl rfl ?_
        refine pr_iload 261 dX9_readTrip_259 rfl rfl ?_
        refine pr_inv0R3 264 dX9_readTrip_261 vX9_140 mX9_goesTo (sp_X9_goesTo r2 (t := t) ht (by omega) (by omega) hon hS.2.2.2.2.2.2.2.1) ⟨Nat.le_of_ble_eq_true rfl, Nat.le_of_ble_eq_true rfl⟩ (Nat.le_of_ble_eq_true rfl) rfl (fun mem3 h3 => ?_)
        refine pr_goto 162 dX9_readTrip_264 rfl ?_
        have er : legK s.K t s.on (tV B T (tN B T p)) = (stpN (swS s 11) (tV B T (tN B T p))).K := by
          show _ = legK s.K (s.K 40) s.on _
          rw [h40]
        exact ih (tN B T (tN B T p)) (stpN (swS s 11) (tV B T (tN B T p))) mem3 _ _ _ _ (by omega) hN2.2.1 hS2 rfl hln R2 ((F1.tr g2.ln).tr (sRd_ln h3.1)) ((x1.go g2).ln (sRd_ln h3.1)) (h3.2.cg er) (sRd_mtk h3.1 m2)
      · rw [if_neg o1]
        rw [tdP, if_neg o1] at h2
        refine pr_istore 247 dX9_readTrip_245 (pm_st_8 rfl rfl) rfl ?_
        refine pr_iload 249 dX9_readTrip_247 rfl rfl ?_
        refine pr_iconst (-1) 250 dX9_readTrip_249 (by decide) rfl ?_
        refine pr_icmp_ne 255 253 dX9_readTrip_250 rfl rfl (fun c_250 => absurd (rfl) (c_250)) (fun c_250 => ?_)
        refine pr_iconst (0) 254 dX9_readTrip_253 (by decide) rfl ?_
        refine pr_zreturn dX9_readTrip_254 rfl (by first | exact Or.inl rfl | exact Or.inr rfl) ?_
        refine ⟨0, rfl, F1.tr h2.1.ln, Or.inr ⟨rfl, _, _, R1.1 _ ?_, h2.2.1, h2.2.2⟩⟩
        by_cases k0 : tK B T (tN B T p) = 0
        · rw [if_neg (by omega)]
          exact Rd.cut k0 (fun z => by have := z.1; rw [show (swS s 11).w = s.w from rfl, hS.1] at this; omega)
        · refine Rd.bad k0 ?_
          rw [stp_11 hS]
          by_cases k2 : tK B T (tN B T p) = 2
          · rw [if_neg (fun z => z k2), if_pos (show ¬ tV B T (tN B T p) < s.K 37 from fun z => o1 ⟨k2, (key k2).mpr z⟩), if_pos k2]
          · rw [if_pos k2, if_neg k2]
    · -- 12
      have hst : stp s (tK B T p) (tV B T p) = .ok (swS s 12) := by rw [stp_t hS hsw, if_pos (by omega), hk]
      have R1 : Rt B T s0 p0 (swS s 12) (tN B T p) := hR.tr (Rt.one (by omega) hst)
      refine pr_aload_n 163 dX9_readTrip_162 rfl rfl rfl ?_
      refine pr_getI 166 dX9_readTrip_163 fX9_27 rfl ?_
      rw [hm.1, hms]
      refine pr_iconst (2) 167 dX9_readTrip_166 (by decide) rfl ?_
      refine pr_icmp_ne 411 170 dX9_readTrip_167 rfl rfl (fun c_167 => absurd (rfl) (c_167)) (fun c_167 => ?_)
      refine pr_aload_n 171 dX9_readTrip_170 rfl rfl rfl ?_
      refine pr_bipush (111) 173 dX9_readTrip_171 (by decide) rfl ?_
      refine pr_bipush (110) 175 dX9_readTrip_173 (by decide) rfl ?_
      refine pr_iconst (0) 176 dX9_readTrip_175 (by decide) rfl ?_
      refine pr_iconst (0) 177 dX9_readTrip_176 (by decide) rfl ?_
      refine pr_iconst (0) 178 dX9_readTrip_177 (by decide) rfl ?_
      refine pr_invD5 181 dX9_readTrip_178 vX9_136 mX9_is (sp_is_on hm hB) ⟨Nat.le_of_ble_eq_true rfl, Nat.le_of_ble_eq_true rfl⟩ (Nat.le_of_ble_eq_true rfl) rfl ?_
      refine pr_istore 183 dX9_readTrip_181 (pm_st_6 rfl rfl) rfl ?_
      refine pr_aload_n 184 dX9_readTrip_183 rfl rfl rfl ?_
      refine pr_bipush (111) 186 dX9_readTrip_184 (by decide) rfl ?_
      refine pr_bipush (102) 188 dX9_readTrip_186 (by decide) rfl ?_
      refine pr_bipush (102) 190 dX9_readTrip_188 (by decide) rfl ?_
      refine pr_iconst (0) 191 dX9_readTrip_190 (by decide) rfl ?_
      refine pr_iconst (0) 192 dX9_readTrip_191 (by decide) rfl ?_
      refine pr_invD5 195 dX9_readTrip_192 vX9_136 mX9_is (sp_is_off hm hB) ⟨Nat.le_of_ble_eq_true rfl, Nat.le_of_ble_eq_true rfl⟩ (Nat.le_of_ble_eq_true rfl) rfl ?_
      refine pr_istore 197 dX9_readTrip_195 (pm_st_7 rfl rfl) rfl ?_
      refine pr_iload 199 dX9_readTrip_197 rfl rfl ?_
      refine pr_if_ne 227 202 dX9_readTrip_199 rfl rfl (fun c_199 => ?_) (fun c_199 => absurd (c_199) (by rw [if_pos hk]; decide))
      refine pr_aload_n 228 dX9_readTrip_227 rfl rfl rfl ?_
      refine pr_inv0R0 231 dX9_readTrip_228 vX9_117 mX9_go (sp_X9_go hx.1 hx.2.1 hx.2.2.1 hx.2.2.2 hN.2.1 (hm.2.2.1 (by omega))) ⟨Nat.le_of_ble_eq_true rfl, Nat.le_of_ble_eq_true rfl⟩ (Nat.le_of_ble_eq_true rfl) rfl (fun mem1 h1 => ?_)
      obtain ⟨g1, m1⟩ := h1
      have x1 := hx.go g1
      have r1 := goF.row hr g1
      have F1 := hF.tr g1.ln
      refine pr_iload 233 dX9_readTrip_231 rfl rfl ?_
      refine pr_if_ne 267 236 dX9_readTrip_233 rfl rfl (fun c_233 => ?_) (fun c_233 => absurd (c_233) (by rw [if_pos hk]; decide))
      by_cases hk2 : tK B T (tN B T p) = 2
      case neg =>
        have hms1 : ¬ nI (msort (tK B T (tN B T p)) T) = 3 := by
          unfold msort
          repeat' split
          all_goals first | decide | omega
        refine pr_aload_n 268 dX9_readTrip_267 rfl rfl rfl ?_
        refine pr_getI 271 dX9_readTrip_268 fX9_27 rfl ?_
        rw [m1.1]
        refine pr_iconst (3) 272 dX9_readTrip_271 (by decide) rfl ?_
        refine pr_icmp_eq 281 275 dX9_readTrip_272 rfl rfl (fun c_272 => absurd (c_272) (hms1)) (fun c_272 => ?_)
        refine pr_aload_n 276 dX9_readTrip_275 rfl rfl rfl ?_
        refine pr_iconst (1) 277 dX9_readTrip_276 (by decide) rfl ?_
        refine pr_invDR1 280 dX9_readTrip_277 vX9_110 mX9_bad (sp_X9_bad m1 1) ⟨Nat.le_of_ble_eq_true rfl, Nat.le_of_ble_eq_true rfl⟩ (Nat.le_of_ble_eq_true rfl) rfl (fun mem2 h2 => ?_)
        refine pr_zreturn dX9_readTrip_280 rfl (by first | exact Or.inl rfl | exact Or.inr rfl) ?_
        refine ⟨0, rfl, F1.tr h2.1.ln, Or.inr ⟨rfl, 1, tS B T (tN B T p), R1.1 _ ?_, by have := h2.2.2.1; split at this <;> exact this, h2.2.2.2⟩⟩
        by_cases k0 : tK B T (tN B T p) = 0
        · exact Rd.cut k0 (fun z => by have := z.1; rw [show (swS s 12).w = s.w from rfl, hS.1] at this; omega)
        · exact Rd.bad k0 (by rw [stp_12 hS, if_pos hk2])
      have hms1 : msort (tK B T (tN B T p)) T = 3 := by rw [hk2]; rfl
      obtain ⟨v, hv0⟩ : ∃ v, tV B T (tN B T p) = v := ⟨_, rfl⟩
      have hv1 := tV_lt hk2
      have hnum := m1.2.2.2.1 hk2
      rw [hv0] at hnum hv1
      have hk1 : tK B T (tN B T p) = 2 ∧ True := ⟨hk2, trivial⟩
      have hN2 := tN_bd hN.2.1 (by omega : 2 ≤ tK B T (tN B T p))
      by_cases hv : v < s.K 39
      case neg =>
        refine pr_aload_n 268 dX9_readTrip_267 rfl rfl rfl ?_
        refine pr_getI 271 dX9_readTrip_268 fX9_27 rfl ?_
        rw [m1.1, hms1]
        refine pr_iconst (3) 272 dX9_readTrip_271 (by decide) rfl ?_
        refine pr_icmp_eq 281 275 dX9_readTrip_272 rfl rfl (fun c_272 => ?_) (fun c_272 => absurd (rfl) (c_272))
        refine pr_aload_n 282 dX9_readTrip_281 rfl rfl rfl ?_
        refine pr_getI 285 dX9_readTrip_282 fX9_41 rfl ?_
        rw [hnum]
        refine pr_aload_n 286 dX9_readTrip_285 rfl rfl rfl ?_
        refine pr_getR0 289 dX9_readTrip_286 fX9_67 rfl ?_
        refine pr_bipush (39) 291 dX9_readTrip_289 (by decide) rfl ?_
        refine pr_iaload 39 292 dX9_readTrip_291 rfl rfl rfl (by omega) rfl ?_
        rw [r1.1 39 (by omega) (by omega)]
        refine pr_icmp_ge 333 295 dX9_readTrip_292 rfl rfl (fun c_292 => ?_) (fun c_292 => absurd ((nI_leI (by omega) (by omega)).mpr (by omega)) (c_292))
        refine pr_aload_n 334 dX9_readTrip_333 rfl rfl rfl ?_
        refine pr_iconst (3) 335 dX9_readTrip_334 (by decide) rfl ?_
        refine pr_invDR1 338 dX9_readTrip_335 vX9_110 mX9_bad (sp_X9_bad m1 3) ⟨Nat.le_of_ble_eq_true rfl, Nat.le_of_ble_eq_true rfl⟩ (Nat.le_of_ble_eq_true rfl) rfl (fun mem2 h2 => ?_)
        refine pr_zreturn dX9_readTrip_338 rfl (by first | exact Or.inl rfl | exact Or.inr rfl) ?_
        refine ⟨0, rfl, F1.tr h2.1.ln, Or.inr ⟨rfl, 3, tS B T (tN B T p), R1.1 _ (Rd.bad (by omega) ?_), ?_, h2.2.2.2⟩⟩
        · rw [hk2, hv0, stp_12 hS, if_neg (by omega), if_pos (show ¬ v < s.K 39 from hv)]
        · have := h2.2.2.1
          rw [hms1] at this
          exact this
      by_cases hc : (s.K (106 + 6 * t)).testBit v = true
      · refine pr_aload_n 268 dX9_readTrip_267 rfl rfl rfl ?_
        refine pr_getI 271 dX9_readTrip_268 fX9_27 rfl ?_
        rw [m1.1, hms1]
        refine pr_iconst (3) 272 dX9_readTrip_271 (by decide) rfl ?_
        refine pr_icmp_eq 281 275 dX9_readTrip_272 rfl rfl (fun c_272 => ?_) (fun c_272 => absurd (rfl) (c_272))
        refine pr_aload_n 282 dX9_readTrip_281 rfl rfl rfl ?_
        refine pr_getI 285 dX9_readTrip_282 fX9_41 rfl ?_
        rw [hnum]
        refine pr_aload_n 286 dX9_readTrip_285 rfl rfl rfl ?_
        refine pr_getR0 289 dX9_readTrip_286 fX9_67 rfl ?_
        refine pr_bipush (39) 291 dX9_readTrip_289 (by decide) rfl ?_
        refine pr_iaload 39 292 dX9_readTrip_291 rfl rfl rfl (by omega) rfl ?_
        rw [r1.1 39 (by omega) (by omega)]
        refine pr_icmp_ge 333 295 dX9_readTrip_292 rfl rfl (fun c_292 => absurd (c_292) (nI_ge hv (by omega))) (fun c_292 => ?_)
        refine pr_iload 297 dX9_readTrip_295 rfl rfl ?_
        refine pr_if_eq 321 300 dX9_readTrip_297 rfl rfl (fun c_297 => absurd (c_297) (by rw [if_pos hk]; decide)) (fun c_297 => ?_)
        refine pr_aload_n 301 dX9_readTrip_300 rfl rfl rfl ?_
        refine pr_getR0 304 dX9_readTrip_301 fX9_67 rfl ?_
        refine pr_iload_n 305 dX9_readTrip_304 rfl rfl rfl ?_
        refine pr_iconst (5) 306 dX9_readTrip_305 (by decide) rfl ?_
        refine pr_iadd 307 dX9_readTrip_306 rfl ?_
        refine pr_iaload (106 + 6 * t) 308 dX9_readTrip_307 rfl rfl (by rw [show (5 : Int32) = nI 5 from rfl, nI_add]; congr 1; omega) (by omega) rfl ?_
        rw [r1.1 _ (by omega) (by omega)]
        refine pr_aload_n 309 dX9_readTrip_308 rfl rfl rfl ?_
        refine pr_getI 312 dX9_readTrip_309 fX9_41 rfl ?_
        rw [hnum]
        refine pr_ivsD2 315 dX9_readTrip_312 sX9_132 mX9_has (sp_X9_has _ v (by omega)) ⟨Nat.le_of_ble_eq_true rfl, Nat.le_of_ble_eq_true rfl⟩ (Nat.le_of_ble_eq_true rfl) rfl ?_
        refine pr_if_eq 339 318 dX9_readTrip_315 rfl rfl (fun c_315 => absurd (c_315) (by rw [if_pos hc]; decide)) (fun c_315 => ?_)
        refine pr_goto 333 dX9_readTrip_318 rfl ?_
        refine pr_aload_n 334 dX9_readTrip_333 rfl rfl rfl ?_
        refine pr_iconst (3) 335 dX9_readTrip_334 (by decide) rfl ?_
        refine pr_invDR1 338 dX9_readTrip_335 vX9_110 mX9_bad (sp_X9_bad m1 3) ⟨Nat.le_of_ble_eq_true rfl, Nat.le_of_ble_eq_true rfl⟩ (Nat.le_of_ble_eq_true rfl) rfl (fun mem2 h2 => ?_)
        refine pr_zreturn dX9_readTrip_338 rfl (by first | exact Or.inl rfl | exact Or.inr rfl) ?_
        refine ⟨0, rfl, F1.tr h2.1.ln, Or.inr ⟨rfl, 3, tS B T (tN B T p), R1.1 _ (Rd.bad (by omega) ?_), ?_, h2.2.2.2⟩⟩
        · rw [hv0]
          rw [hk1.1, stp_12 hS, if_neg (by omega), if_neg (show ¬ ¬ v < s.K 39 from fun z => z hv), if_pos hc]
        · have := h2.2.2.1
          rw [hms1] at this
          exact this
      · have hst2 : stp (swS s 12) (tK B T (tN B T p)) (tV B T (tN B T p)) = .ok (stpN (swS s 12) v) := by
          rw [hv0]
          rw [hk1.1, stp_12 hS, if_neg (by omega), if_neg (show ¬ ¬ v < s.K 39 from fun z => z hv), if_neg hc]
        have R2 := R1.tr (Rt.one (by omega) hst2)
        have hS2 : tpS (stpN (swS s 12) v) t := hS.sw.ld (Or.inl rfl) (by omega)
        have er : up (up s.K (197 + 16 * t + v) (s.K (105 + 6 * t))) (106 + 6 * t) (s.K (106 + 6 * t) ||| 2 ^ v) = (stpN (swS s 12) v).K := by
          show _ = onK s.K (s.K 40) v
          rw [h40]
          rfl
        refine pr_aload_n 268 dX9_readTrip_267 rfl rfl rfl ?_
        refine pr_getI 271 dX9_readTrip_268 fX9_27 rfl ?_
        rw [m1.1, hms1]
        refine pr_iconst (3) 272 dX9_readTrip_271 (by decide) rfl ?_
        refine pr_icmp_eq 281 275 dX9_readTrip_272 rfl rfl (fun c_272 => ?_) (fun c_272 => absurd (rfl) (c_272))
        refine pr_aload_n 282 dX9_readTrip_281 rfl rfl rfl ?_
        refine pr_getI 285 dX9_readTrip_282 fX9_41 rfl ?_
        rw [hnum]
        refine pr_aload_n 286 dX9_readTrip_285 rfl rfl rfl ?_
        refine pr_getR0 289 dX9_readTrip_286 fX9_67 rfl ?_
        refine pr_bipush (39) 291 dX9_readTrip_289 (by decide) rfl ?_
        refine pr_iaload 39 292 dX9_readTrip_291 rfl rfl rfl (by omega) rfl ?_
        rw [r1.1 39 (by omega) (by omega)]
        refine pr_icmp_ge 333 295 dX9_readTrip_292 rfl rfl (fun c_292 => absurd (c_292) (nI_ge hv (by omega))) (fun c_292 => ?_)
        refine pr_iload 297 dX9_readTrip_295 rfl rfl ?_
        refine pr_if_eq 321 300 dX9_readTrip_297 rfl rfl (fun c_297 => absurd (c_297) (by rw [if_pos hk]; decide)) (fun c_297 => ?_)
        refine pr_aload_n 301 dX9_readTrip_300 rfl rfl rfl ?_
        refine pr_getR0 304 dX9_readTrip_301 fX9_67 rfl ?_
        refine pr_iload_n 305 dX9_readTrip_304 rfl rfl rfl ?_
        refine pr_iconst (5) 306 dX9_readTrip_305 (by decide) rfl ?_
        refine pr_iadd 307 dX9_readTrip_306 rfl ?_
        refine pr_iaload (106 + 6 * t) 308 dX9_readTrip_307 rfl rfl (by rw [show (5 : Int32) = nI 5 from rfl, nI_add]; congr 1; omega) (by omega) rfl ?_
        rw [r1.1 _ (by omega) (by omega)]
        refine pr_aload_n 309 dX9_readTrip_308 rfl rfl rfl ?_
        refine pr_getI 312 dX9_readTrip_309 fX9_41 rfl ?_
        rw [hnum]
        refine pr_ivsD2 315 dX9_readTrip_312 sX9_132 mX9_has (sp_X9_has _ v (by omega)) ⟨Nat.le_of_ble_eq_true rfl, Nat.le_of_ble_eq_true rfl⟩ (Nat.le_of_ble_eq_true rfl) rfl ?_
        refine pr_if_eq 339 318 dX9_readTrip_315 rfl rfl (fun c_315 => ?_) (fun c_315 => absurd (by rw [if_neg hc]) (c_315))
        refine pr_aload_n 340 dX9_readTrip_339 rfl rfl rfl ?_
        refine pr_getR0 343 dX9_readTrip_340 fX9_67 rfl ?_
        refine pr_iload 345 dX9_readTrip_343 rfl rfl ?_
        refine pr_if_eq 354 348 dX9_readTrip_345 rfl rfl (fun c_345 => absurd (c_345) (by rw [if_pos hk]; decide)) (fun c_345 => ?_)
        refine pr_sipush (197) 351 dX9_readTrip_348 (by decide) rfl ?_
        refine pr_goto 357 dX9_readTrip_351 rfl ?_
        refine pr_bipush (16) 359 dX9_readTrip_357 (by decide) rfl ?_
        refine pr_iload_n 360 dX9_readTrip_359 rfl rfl rfl ?_
        refine pr_imul 361 dX9_readTrip_360 rfl ?_
        refine pr_iadd 362 dX9_readTrip_361 rfl ?_
        refine pr_aload_n 363 dX9_readTrip_362 rfl rfl rfl ?_
        refine pr_getI 366 dX9_readTrip_363 fX9_41 rfl ?_
        rw [hnum]
        refine pr_iadd 367 dX9_readTrip_366 rfl ?_
        refine pr_aload_n 368 dX9_readTrip_367 rfl rfl rfl ?_
        refine pr_getR0 371 dX9_readTrip_368 fX9_67 rfl ?_
        refine pr_iload_n 372 dX9_readTrip_371 rfl rfl rfl ?_
        refine pr_iconst (4) 373 dX9_readTrip_372 (by decide) rfl ?_
        refine pr_iadd 374 dX9_readTrip_373 rfl ?_
        refine pr_iaload (105 + 6 * t) 375 dX9_readTrip_374 rfl rfl (by rw [show (4 : Int32) = nI 4 from rfl, nI_add]; congr 1; omega) (by omega) rfl ?_
        rw [r1.1 _ (by omega) (by omega)]
        refine pr_iastore (197 + 16 * t + v) 376 dX9_readTrip_375 rfl rfl (ix_on t v) (by omega) rfl ?_
        refine pr_iload 378 dX9_readTrip_376 rfl rfl ?_
        refine pr_iconst (1) 379 dX9_readTrip_378 (by decide) rfl ?_
        refine pr_aload_n 380 dX9_readTrip_379 rfl rfl rfl ?_
        refine pr_getI 383 dX9_readTrip_380 fX9_41 rfl ?_
        rw [pm_gIn (by simp), hnum]
        refine pr_ishl 384 dX9_readTrip_383 rfl ?_
        rw [nI_shl1 v (by omega)]
        refine pr_ixor 385 dX9_readTrip_384 rfl ?_
        rw [nI_xorN]
        refine pr_istore 387 dX9_readTrip_385 (pm_st_5 rfl rfl) rfl ?_
        refine pr_aload_n 388 dX9_readTrip_387 rfl rfl rfl ?_
        refine pr_getR0 391 dX9_readTrip_388 fX9_67 rfl ?_
        refine pr_iload_n 392 dX9_readTrip_391 rfl rfl rfl ?_
        refine pr_iconst (5) 393 dX9_readTrip_392 (by decide) rfl ?_
        refine pr_iadd 394 dX9_readTrip_393 rfl ?_
        refine pr_dup2 rfl rfl 395 dX9_readTrip_394 rfl ?_
        refine pr_iaload (106 + 6 * t) 396 dX9_readTrip_395 rfl rfl (by rw [show (5 : Int32) = nI 5 from rfl, nI_add]; congr 1; omega) (by omega) rfl ?_
        rw [pm_gIn (by omega), r1.1 _ (by omega) (by omega)]
        refine pr_iconst (1) 397 dX9_readTrip_396 (by decide) rfl ?_
        refine pr_aload_n 398 dX9_readTrip_397 rfl rfl rfl ?_
        refine pr_getI 401 dX9_readTrip_398 fX9_41 rfl ?_
        rw [pm_gIn (by simp), hnum]
        refine pr_ishl 402 dX9_readTrip_401 rfl ?_
        rw [nI_shl1 v (by omega)]
        refine pr_ior 403 dX9_readTrip_402 rfl ?_
        rw [nI_orN]
        refine pr_iastore (106 + 6 * t) 404 dX9_readTrip_403 rfl rfl (by rw [show (5 : Int32) = nI 5 from rfl, nI_add]; congr 1; omega) (by omega) rfl ?_
        have r2 := ((r1.w (k := 197 + 16 * t + v) (v := s.K (105 + 6 * t)) (by omega) (by rw [cdI, if_neg (by omega)])).w (k := 106 + 6 * t) (v := s.K (106 + 6 * t) ||| 2 ^ v) (by omega) (by rw [cdI, if_neg (by omega)])).cg er
        have m2 := (m1.u (k := 197 + 16 * t + v) (x := nI (s.K (105 + 6 * t)))).u (k := 106 + 6 * t) (x := nI (s.K (106 + 6 * t) ||| 2 ^ v))
        have F2 := (F1.u (k := 197 + 16 * t + v) (x := nI (s.K (105 + 6 * t)))).u (k := 106 + 6 * t) (x := nI (s.K (106 + 6 * t) ||| 2 ^ v))
        have x2 := x1.ln ((lnG.rf.u (k := 197 + 16 * t + v) (x := nI (s.K (105 + 6 * t)))).u (k := 106 + 6 * t) (x := nI (s.K (106 + 6 * t) ||| 2 ^ v)))
        refine pr_aload_n 405 dX9_readTrip_404 rfl rfl rfl ?_
        refine pr_inv0R0 408 dX9_readTrip_405 vX9_117 mX9_go (sp_X9_go x2.1 x2.2.1 x2.2.2.1 x2.2.2.2 hN2.2.1 (m2.2.2.1 (by omega))) ⟨Nat.le_of_ble_eq_true rfl, Nat.le_of_ble_eq_true rfl⟩ (Nat.le_of_ble_eq_true rfl) rfl (fun mem3 h3 => ?_)
        refine pr_goto 162 dX9_readTrip_408 rfl ?_
        exact ih (tN B T (tN B T p)) (stpN (swS s 12) v) mem3 _ _ _ _ (by omega) hN2.2.1 hS2 rfl hln R2 (F2.tr h3.1.ln) (x2.go h3.1) (goF.row r2 h3.1) h3.2
    · -- 13
      have hst : stp s (tK B T p) (tV B T p) = .ok (swS s 13) := by rw [stp_t hS hsw, if_pos (by omega), hk]
      have R1 : Rt B T s0 p0 (swS s 13) (tN B T p) := hR.tr (Rt.one (by omega) hst)
      refine pr_aload_n 163 dX9_readTrip_162 rfl rfl rfl ?_
      refine pr_getI 166 dX9_readTrip_163 fX9_27 rfl ?_
      rw [hm.1, hms]
      refine pr_iconst (2) 167 dX9_readTrip_166 (by decide) rfl ?_
      refine pr_icmp_ne 411 170 dX9_readTrip_167 rfl rfl (fun c_167 => absurd (rfl) (c_167)) (fun c_167 => ?_)
      refine pr_aload_n 171 dX9_readTrip_170 rfl rfl rfl ?_
      refine pr_bipush (111) 173 dX9_readTrip_171 (by decide) rfl ?_
      refine pr_bipush (110) 175 dX9_readTrip_173 (by decide) rfl ?_
      refine pr_iconst (0) 176 dX9_readTrip_175 (by decide) rfl ?_
      refine pr_iconst (0) 177 dX9_readTrip_176 (by decide) rfl ?_
      refine pr_iconst (0) 178 dX9_readTrip_177 (by decide) rfl ?_
      refine pr_invD5 181 dX9_readTrip_178 vX9_136 mX9_is (sp_is_on hm hB) ⟨Nat.le_of_ble_eq_true rfl, Nat.le_of_ble_eq_true rfl⟩ (Nat.le_of_ble_eq_true rfl) rfl ?_
      refine pr_istore 183 dX9_readTrip_181 (pm_st_6 rfl rfl) rfl ?_
      refine pr_aload_n 184 dX9_readTrip_183 rfl rfl rfl ?_
      refine pr_bipush (111) 186 dX9_readTrip_184 (by decide) rfl ?_
      refine pr_bipush (102) 188 dX9_readTrip_186 (by decide) rfl ?_
      refine pr_bipush (102) 190 dX9_readTrip_188 (by decide) rfl ?_
      refine pr_iconst (0) 191 dX9_readTrip_190 (by decide) rfl ?_
      refine pr_iconst (0) 192 dX9_readTrip_191 (by decide) rfl ?_
      refine pr_invD5 195 dX9_readTrip_192 vX9_136 mX9_is (sp_is_off hm hB) ⟨Nat.le_of_ble_eq_true rfl, Nat.le_of_ble_eq_true rfl⟩ (Nat.le_of_ble_eq_true rfl) rfl ?_
      refine pr_istore 197 dX9_readTrip_195 (pm_st_7 rfl rfl) rfl ?_
      refine pr_iload 199 dX9_readTrip_197 rfl rfl ?_
      refine pr_if_ne 227 202 dX9_readTrip_199 rfl rfl (fun c_199 => absurd (by rw [if_neg (by omega)]) (c_199)) (fun c_199 => ?_)
      refine pr_iload 204 dX9_readTrip_202 rfl rfl ?_
      refine pr_if_ne 227 207 dX9_readTrip_204 rfl rfl (fun c_204 => ?_) (fun c_204 => absurd (c_204) (by rw [if_pos hk]; decide))
      refine pr_aload_n 228 dX9_readTrip_227 rfl rfl rfl ?_
      refine pr_inv0R0 231 dX9_readTrip_228 vX9_117 mX9_go (sp_X9_go hx.1 hx.2.1 hx.2.2.1 hx.2.2.2 hN.2.1 (hm.2.2.1 (by omega))) ⟨Nat.le_of_ble_eq_true rfl, Nat.le_of_ble_eq_true rfl⟩ (Nat.le_of_ble_eq_true rfl) rfl (fun mem1 h1 => ?_)
      obtain ⟨g1, m1⟩ := h1
      have x1 := hx.go g1
      have r1 := goF.row hr g1
      have F1 := hF.tr g1.ln
      refine pr_iload 233 dX9_readTrip_231 rfl rfl ?_
      refine pr_if_ne 267 236 dX9_readTrip_233 rfl rfl (fun c_233 => absurd (by rw [if_neg (by omega)]) (c_233)) (fun c_233 => ?_)
      refine pr_iload 238 dX9_readTrip_236 rfl rfl ?_
      refine pr_if_ne 267 241 dX9_readTrip_238 rfl rfl (fun c_238 => ?_) (fun c_238 => absurd (c_238) (by rw [if_pos hk]; decide))
      by_cases hk2 : tK B T (tN B T p) = 2
      case neg =>
        have hms1 : ¬ nI (msort (tK B T (tN B T p)) T) = 3 := by
          unfold msort
          repeat' split
          all_goals first | decide | omega
        refine pr_aload_n 268 dX9_readTrip_267 rfl rfl rfl ?_
        refine pr_getI 271 dX9_readTrip_268 fX9_27 rfl ?_
        rw [m1.1]
        refine pr_iconst (3) 272 dX9_readTrip_271 (by decide) rfl ?_
        refine pr_icmp_eq 281 275 dX9_readTrip_272 rfl rfl (fun c_272 => absurd (c_272) (hms1)) (fun c_272 => ?_)
        refine pr_aload_n 276 dX9_readTrip_275 rfl rfl rfl ?_
        refine pr_iconst (1) 277 dX9_readTrip_276 (by decide) rfl ?_
        refine pr_invDR1 280 dX9_readTrip_277 vX9_110 mX9_bad (sp_X9_bad m1 1) ⟨Nat.le_of_ble_eq_true rfl, Nat.le_of_ble_eq_true rfl⟩ (Nat.le_of_ble_eq_true rfl) rfl (fun mem2 h2 => ?_)
        refine pr_zreturn dX9_readTrip_280 rfl (by first | exact Or.inl rfl | exact Or.inr rfl) ?_
        refine ⟨0, rfl, F1.tr h2.1.ln, Or.inr ⟨rfl, 1, tS B T (tN B T p), R1.1 _ ?_, by have := h2.2.2.1; split at this <;> exact this, h2.2.2.2⟩⟩
        by_cases k0 : tK B T (tN B T p) = 0
        · exact Rd.cut k0 (fun z => by have := z.1; rw [show (swS s 13).w = s.w from rfl, hS.1] at this; omega)
        · exact Rd.bad k0 (by rw [stp_13 hS, if_pos hk2])
      have hms1 : msort (tK B T (tN B T p)) T = 3 := by rw [hk2]; rfl
      obtain ⟨v, hv0⟩ : ∃ v, tV B T (tN B T p) = v := ⟨_, rfl⟩
      have hv1 := tV_lt hk2
      have hnum := m1.2.2.2.1 hk2
      rw [hv0] at hnum hv1
      have hk1 : tK B T (tN B T p) = 2 ∧ True := ⟨hk2, trivial⟩
      have hN2 := tN_bd hN.2.1 (by omega : 2 ≤ tK B T (tN B T p))
      by_cases hv : v < s.K 39
      case neg =>
        refine pr_aload_n 268 dX9_readTrip_267 rfl rfl rfl ?_
        refine pr_getI 271 dX9_readTrip_268 fX9_27 rfl ?_
        rw [m1.1, hms1]
        refine pr_iconst (3) 272 dX9_readTrip_271 (by decide) rfl ?_
        refine pr_icmp_eq 281 275 dX9_readTrip_272 rfl rfl (fun c_272 => ?_) (fun c_272 => absurd (rfl) (c_272))
        refine pr_aload_n 282 dX9_readTrip_281 rfl rfl rfl ?_
        refine pr_getI 285 dX9_readTrip_282 fX9_41 rfl ?_
        rw [hnum]
        refine pr_aload_n 286 dX9_readTrip_285 rfl rfl rfl ?_
        refine pr_getR0 289 dX9_readTrip_286 fX9_67 rfl ?_
        refine pr_bipush (39) 291 dX9_readTrip_289 (by decide) rfl ?_
        refine pr_iaload 39 292 dX9_readTrip_291 rfl rfl rfl (by omega) rfl ?_
        rw [r1.1 39 (by omega) (by omega)]
        refine pr_icmp_ge 333 295 dX9_readTrip_292 rfl rfl (fun c_292 => ?_) (fun c_292 => absurd ((nI_leI (by omega) (by omega)).mpr (by omega)) (c_292))
        refine pr_aload_n 334 dX9_readTrip_333 rfl rfl rfl ?_
        refine pr_iconst (3) 335 dX9_readTrip_334 (by decide) rfl ?_
        refine pr_invDR1 338 dX9_readTrip_335 vX9_110 mX9_bad (sp_X9_bad m1 3) ⟨Nat.le_of_ble_eq_true rfl, Nat.le_of_ble_eq_true rfl⟩ (Nat.le_of_ble_eq_true rfl) rfl (fun mem2 h2 => ?_)
        refine pr_zreturn dX9_readTrip_338 rfl (by first | exact Or.inl rfl | exact Or.inr rfl) ?_
        refine ⟨0, rfl, F1.tr h2.1.ln, Or.inr ⟨rfl, 3, tS B T (tN B T p), R1.1 _ (Rd.bad (by omega) ?_), ?_, h2.2.2.2⟩⟩
        · rw [hk2, hv0, stp_13 hS, if_neg (by omega), if_pos (show ¬ v < s.K 39 from hv)]
        · have := h2.2.2.1
          rw [hms1] at this
          exact this
      by_cases hc : ¬ s.on.testBit v = true
      · refine pr_aload_n 268 dX9_readTrip_267 rfl rfl rfl ?_
        refine pr_getI 271 dX9_readTrip_268 fX9_27 rfl ?_
        rw [m1.1, hms1]
        refine pr_iconst (3) 272 dX9_readTrip_271 (by decide) rfl ?_
        refine pr_icmp_eq 281 275 dX9_readTrip_272 rfl rfl (fun c_272 => ?_) (fun c_272 => absurd (rfl) (c_272))
        refine pr_aload_n 282 dX9_readTrip_281 rfl rfl rfl ?_
        refine pr_getI 285 dX9_readTrip_282 fX9_41 rfl ?_
        rw [hnum]
        refine pr_aload_n 286 dX9_readTrip_285 rfl rfl rfl ?_
        refine pr_getR0 289 dX9_readTrip_286 fX9_67 rfl ?_
        refine pr_bipush (39) 291 dX9_readTrip_289 (by decide) rfl ?_
        refine pr_iaload 39 292 dX9_readTrip_291 rfl rfl rfl (by omega) rfl ?_
        rw [r1.1 39 (by omega) (by omega)]
        refine pr_icmp_ge 333 295 dX9_readTrip_292 rfl rfl (fun c_292 => absurd (c_292) (nI_ge hv (by omega))) (fun c_292 => ?_)
        refine pr_iload 297 dX9_readTrip_295 rfl rfl ?_
        refine pr_if_eq 321 300 dX9_readTrip_297 rfl rfl (fun c_297 => ?_) (fun c_297 => absurd (by rw [if_neg (by omega)]) (c_297))
        refine pr_iload 323 dX9_readTrip_321 rfl rfl ?_
        refine pr_aload_n 324 dX9_readTrip_323 rfl rfl rfl ?_
        refine pr_getI 327 dX9_readTrip_324 fX9_41 rfl ?_
        rw [hnum]
        refine pr_ivsD2 330 dX9_readTrip_327 sX9_132 mX9_has (sp_X9_has _ v (by omega)) ⟨Nat.le_of_ble_eq_true rfl, Nat.le_of_ble_eq_true rfl⟩ (Nat.le_of_ble_eq_true rfl) rfl ?_
        refine pr_if_ne 339 333 dX9_readTrip_330 rfl rfl (fun c_330 => absurd (by rw [if_neg hc]) (c_330)) (fun c_330 => ?_)
        refine pr_aload_n 334 dX9_readTrip_333 rfl rfl rfl ?_
        refine pr_iconst (3) 335 dX9_readTrip_334 (by decide) rfl ?_
        refine pr_invDR1 338 dX9_readTrip_335 vX9_110 mX9_bad (sp_X9_bad m1 3) ⟨Nat.le_of_ble_eq_true rfl, Nat.le_of_ble_eq_true rfl⟩ (Nat.le_of_ble_eq_true rfl) rfl (fun mem2 h2 => ?_)
        refine pr_zreturn dX9_readTrip_338 rfl (by first | exact Or.inl rfl | exact Or.inr rfl) ?_
        refine ⟨0, rfl, F1.tr h2.1.ln, Or.inr ⟨rfl, 3, tS B T (tN B T p), R1.1 _ (Rd.bad (by omega) ?_), ?_, h2.2.2.2⟩⟩
        · rw [hv0]
          rw [hk1.1, stp_13 hS, if_neg (by omega), if_neg (show ¬ ¬ v < s.K 39 from fun z => z hv), if_pos hc]
        · have := h2.2.2.1
          rw [hms1] at this
          exact this
      · have hst2 : stp (swS s 13) (tK B T (tN B T p)) (tV B T (tN B T p)) = .ok (stpN (swS s 13) v) := by
          rw [hv0]
          rw [hk1.1, stp_13 hS, if_neg (by omega), if_neg (show ¬ ¬ v < s.K 39 from fun z => z hv), if_neg hc]
        have R2 := R1.tr (Rt.one (by omega) hst2)
        have hS2 : tpS (stpN (swS s 13) v) t := hS.sw.ld (Or.inr rfl) (by omega)
        have er : up (up s.K (453 + 16 * t + v) (s.K (105 + 6 * t))) (106 + 6 * t) (s.K (106 + 6 * t) ||| 2 ^ v) = (stpN (swS s 13) v).K := by
          show _ = offK s.K (s.K 40) v
          rw [h40]
          rfl
        refine pr_aload_n 268 dX9_readTrip_267 rfl rfl rfl ?_
        refine pr_getI 271 dX9_readTrip_268 fX9_27 rfl ?_
        rw [m1.1, hms1]
        refine pr_iconst (3) 272 dX9_readTrip_271 (by decide) rfl ?_
        refine pr_icmp_eq 281 275 dX9_readTrip_272 rfl rfl (fun c_272 => ?_) (fun c_272 => absurd (rfl) (c_272))
        refine pr_aload_n 282 dX9_readTrip_281 rfl rfl rfl ?_
        refine pr_getI 285 dX9_readTrip_282 fX9_41 rfl ?_
        rw [hnum]
        refine pr_aload_n 286 dX9_readTrip_285 rfl rfl rfl ?_
        refine pr_getR0 289 dX9_readTrip_286 fX9_67 rfl ?_
        refine pr_bipush (39) 291 dX9_readTrip_289 (by decide) rfl ?_
        refine pr_iaload 39 292 dX9_readTrip_291 rfl rfl rfl (by omega) rfl ?_
        rw [r1.1 39 (by omega) (by omega)]
        refine pr_icmp_ge 333 295 dX9_readTrip_292 rfl rfl (fun c_292 => absurd (c_292) (nI_ge hv (by omega))) (fun c_292 => ?_)
        refine pr_iload 297 dX9_readTrip_295 rfl rfl ?_
        refine pr_if_eq 321 300 dX9_readTrip_297 rfl rfl (fun c_297 => ?_) (fun c_297 => absurd (by rw [if_neg (by omega)]) (c_297))
        refine pr_iload 323 dX9_readTrip_321 rfl rfl ?_
        refine pr_aload_n 324 dX9_readTrip_323 rfl rfl rfl ?_
        refine pr_getI 327 dX9_readTrip_324 fX9_41 rfl ?_
        rw [hnum]
        refine pr_ivsD2 330 dX9_readTrip_327 sX9_132 mX9_has (sp_X9_has _ v (by omega)) ⟨Nat.le_of_ble_eq_true rfl, Nat.le_of_ble_eq_true rfl⟩ (Nat.le_of_ble_eq_true rfl) rfl ?_
        refine pr_if_ne 339 333 dX9_readTrip_330 rfl rfl (fun c_330 => ?_) (fun c_330 => absurd (c_330) (by rw [if_pos (Decidable.not_not.mp hc)]; decide))
        refine pr_aload_n 340 dX9_readTrip_339 rfl rfl rfl ?_
        refine pr_getR0 343 dX9_readTrip_340 fX9_67 rfl ?_
        refine pr_iload 345 dX9_readTrip_343 rfl rfl ?_
        refine pr_if_eq 354 348 dX9_readTrip_345 rfl rfl (fun c_345 => ?_) (fun c_345 => absurd (by rw [if_neg (by omega)]) (c_345))
        refine pr_sipush (453) 357 dX9_readTrip_354 (by decide) rfl ?_
        refine pr_bipush (16) 359 dX9_readTrip_357 (by decide) rfl ?_
        refine pr_iload_n 360 dX9_readTrip_359 rfl rfl rfl ?_
        refine pr_imul 361 dX9_readTrip_360 rfl ?_
        refine pr_iadd 362 dX9_readTrip_361 rfl ?_
        refine pr_aload_n 363 dX9_readTrip_362 rfl rfl rfl ?_
        refine pr_getI 366 dX9_readTrip_363 fX9_41 rfl ?_
        rw [hnum]
        refine pr_iadd 367 dX9_readTrip_366 rfl ?_
        refine pr_aload_n 368 dX9_readTrip_367 rfl rfl rfl ?_
        refine pr_getR0 371 dX9_readTrip_368 fX9_67 rfl ?_
        refine pr_iload_n 372 dX9_readTrip_371 rfl rfl rfl ?_
        refine pr_iconst (4) 373 dX9_readTrip_372 (by decide) rfl ?_
        refine pr_iadd 374 dX9_readTrip_373 rfl ?_
        refine pr_iaload (105 + 6 * t) 375 dX9_readTrip_374 rfl rfl (by rw [show (4 : Int32) = nI 4 from rfl, nI_add]; congr 1; omega) (by omega) rfl ?_
        rw [r1.1 _ (by omega) (by omega)]
        refine pr_iastore (453 + 16 * t + v) 376 dX9_readTrip_375 rfl rfl (ix_off t v) (by omega) rfl ?_
        refine pr_iload 378 dX9_readTrip_376 rfl rfl ?_
        refine pr_iconst (1) 379 dX9_readTrip_378 (by decide) rfl ?_
        refine pr_aload_n 380 dX9_readTrip_379 rfl rfl rfl ?_
        refine pr_getI 383 dX9_readTrip_380 fX9_41 rfl ?_
        rw [pm_gIn (by simp), hnum]
        refine pr_ishl 384 dX9_readTrip_383 rfl ?_
        rw [nI_shl1 v (by omega)]
        refine pr_ixor 385 dX9_readTrip_384 rfl ?_
        rw [nI_xorN]
        refine pr_istore 387 dX9_readTrip_385 (pm_st_5 rfl rfl) rfl ?_
        refine pr_aload_n 388 dX9_readTrip_387 rfl rfl rfl ?_
        refine pr_getR0 391 dX9_readTrip_388 fX9_67 rfl ?_
        refine pr_iload_n 392 dX9_readTrip_391 rfl rfl rfl ?_
        refine pr_iconst (5) 393 dX9_readTrip_392 (by decide) rfl ?_
        refine pr_iadd 394 dX9_readTrip_393 rfl ?_
        refine pr_dup2 rfl rfl 395 dX9_readTrip_394 rfl ?_
        refine pr_iaload (106 + 6 * t) 396 dX9_readTrip_395 rfl rfl (by rw [show (5 : Int32) = nI 5 from rfl, nI_add]; congr 1; omega) (by omega) rfl ?_
        rw [pm_gIn (by omega), r1.1 _ (by omega) (by omega)]
        refine pr_iconst (1) 397 dX9_readTrip_396 (by decide) rfl ?_
        refine pr_aload_n 398 dX9_readTrip_397 rfl rfl rfl ?_
        refine pr_getI 401 dX9_readTrip_398 fX9_41 rfl ?_
        rw [pm_gIn (by simp), hnum]
        refine pr_ishl 402 dX9_readTrip_401 rfl ?_
        rw [nI_shl1 v (by omega)]
        refine pr_ior 403 dX9_readTrip_402 rfl ?_
        rw [nI_orN]
        refine pr_iastore (106 + 6 * t) 404 dX9_readTrip_403 rfl rfl (by rw [show (5 : Int32) = nI 5 from rfl, nI_add]; congr 1; omega) (by omega) rfl ?_
        have r2 := ((r1.w (k := 453 + 16 * t + v) (v := s.K (105 + 6 * t)) (by omega) (by rw [cdI, if_neg (by omega)])).w (k := 106 + 6 * t) (v := s.K (106 + 6 * t) ||| 2 ^ v) (by omega) (by rw [cdI, if_neg (by omega)])).cg er
        have m2 := (m1.u (k := 453 + 16 * t + v) (x := nI (s.K (105 + 6 * t)))).u (k := 106 + 6 * t) (x := nI (s.K (106 + 6 * t) ||| 2 ^ v))
        have F2 := (F1.u (k := 453 + 16 * t + v) (x := nI (s.K (105 + 6 * t)))).u (k := 106 + 6 * t) (x := nI (s.K (106 + 6 * t) ||| 2 ^ v))
        have x2 := x1.ln ((lnG.rf.u (k := 453 + 16 * t + v) (x := nI (s.K (105 + 6 * t)))).u (k := 106 + 6 * t) (x := nI (s.K (106 + 6 * t) ||| 2 ^ v)))
        refine pr_aload_n 405 dX9_readTrip_404 rfl rfl rfl ?_
        refine pr_inv0R0 408 dX9_readTrip_405 vX9_117 mX9_go (sp_X9_go x2.1 x2.2.1 x2.2.2.1 x2.2.2.2 hN2.2.1 (m2.2.2.1 (by omega))) ⟨Nat.le_of_ble_eq_true rfl, Nat.le_of_ble_eq_true rfl⟩ (Nat.le_of_ble_eq_true rfl) rfl (fun mem3 h3 => ?_)
        refine pr_goto 162 dX9_readTrip_408 rfl ?_
        exact ih (tN B T (tN B T p)) (stpN (swS s 13) v) mem3 _ _ _ _ (by omega) hN2.2.1 hS2 rfl hln R2 (F2.tr h3.1.ln) (x2.go h3.1) (goF.row r2 h3.1) h3.2
    · refine pr_aload_n 163 dX9_readTrip_162 rfl rfl rfl ?_
      refine pr_getI 166 dX9_readTrip_163 fX9_27 rfl ?_
      rw [hm.1, hms]
      refine pr_iconst (2) 167 dX9_readTrip_166 (by decide) rfl ?_
      refine pr_icmp_ne 411 170 dX9_readTrip_167 rfl rfl (fun c_167 => absurd (rfl) (c_167)) (fun c_167 => ?_)
      refine pr_aload_n 171 dX9_readTrip_170 rfl rfl rfl ?_
      refine pr_bipush (111) 173 dX9_readTrip_171 (by decide) rfl ?_
      refine pr_bipush (110) 175 dX9_readTrip_173 (by decide) rfl ?_
      refine pr_iconst (0) 176 dX9_readTrip_175 (by decide) rfl ?_
      refine pr_iconst (0) 177 dX9_readTrip_176 (by decide) rfl ?_
      refine pr_iconst (0) 178 dX9_readTrip_177 (by decide) rfl ?_
      refine pr_invD5 181 dX9_readTrip_178 vX9_136 mX9_is (sp_is_on hm hB) ⟨Nat.le_of_ble_eq_true rfl, Nat.le_of_ble_eq_true rfl⟩ (Nat.le_of_ble_eq_true rfl) rfl ?_
      refine pr_istore 183 dX9_readTrip_181 (pm_st_6 rfl rfl) rfl ?_
      refine pr_aload_n 184 dX9_readTrip_183 rfl rfl rfl ?_
      refine pr_bipush (111) 186 dX9_readTrip_184 (by decide) rfl ?_
      refine pr_bipush (102) 188 dX9_readTrip_186 (by decide) rfl ?_
      refine pr_bipush (102) 190 dX9_readTrip_188 (by decide) rfl ?_
      refine pr_iconst (0) 191 dX9_readTrip_190 (by decide) rfl ?_
      refine pr_iconst (0) 192 dX9_readTrip_191 (by decide) rfl ?_
      refine pr_invD5 195 dX9_readTrip_192 vX9_136 mX9_is (sp_is_off hm hB) ⟨Nat.le_of_ble_eq_true rfl, Nat.le_of_ble_eq_true rfl⟩ (Nat.le_of_ble_eq_true rfl) rfl ?_
      refine pr_istore 197 dX9_readTrip_195 (pm_st_7 rfl rfl) rfl ?_
      refine pr_iload 199 dX9_readTrip_197 rfl rfl ?_
      refine pr_if_ne 227 202 dX9_readTrip_199 rfl rfl (fun c_199 => absurd (by rw [if_neg (by omega)]) (c_199)) (fun c_199 => ?_)
      refine pr_iload 204 dX9_readTrip_202 rfl rfl ?_
      refine pr_if_ne 227 207 dX9_readTrip_204 rfl rfl (fun c_204 => absurd (by rw [if_neg (by omega)]) (c_204)) (fun c_204 => ?_)
      refine pr_aload_n 208 dX9_readTrip_207 rfl rfl rfl ?_
      refine pr_bipush (116) 210 dX9_readTrip_208 (by decide) rfl ?_
      refine pr_bipush (111) 212 dX9_readTrip_210 (by decide) rfl ?_
      refine pr_iconst (0) 213 dX9_readTrip_212 (by decide) rfl ?_
      refine pr_iconst (0) 214 dX9_readTrip_213 (by decide) rfl ?_
      refine pr_iconst (0) 215 dX9_readTrip_214 (by decide) rfl ?_
      refine pr_invD5 218 dX9_readTrip_215 vX9_136 mX9_is (sp_is_to hm hB) ⟨Nat.le_of_ble_eq_true rfl, Nat.le_of_ble_eq_true rfl⟩ (Nat.le_of_ble_eq_true rfl) rfl ?_
      refine pr_if_ne 227 221 dX9_readTrip_218 rfl rfl (fun c_218 => absurd (by rw [if_neg (by omega)]) (c_218)) (fun c_218 => ?_)
      refine pr_aload_n 222 dX9_readTrip_221 rfl rfl rfl ?_
      refine pr_iconst (1) 223 dX9_readTrip_222 (by decide) rfl ?_
      refine pr_invDR1 226 dX9_readTrip_223 vX9_110 mX9_bad (sp_X9_bad hm 1) ⟨Nat.le_of_ble_eq_true rfl, Nat.le_of_ble_eq_true rfl⟩ (Nat.le_of_ble_eq_true rfl) rfl (fun mem1 h1 => ?_)
      refine pr_zreturn dX9_readTrip_226 rfl (by first | exact Or.inl rfl | exact Or.inr rfl) ?_
      refine ⟨0, rfl, hF.tr h1.1.ln, Or.inr ⟨rfl, 1, _, hR.1 _ (Rd.bad (by omega) ?_), ?_, h1.2.2.2⟩⟩
      · rw [stp_t hS hsw, if_neg hk, if_neg (by omega)]
      · have := h1.2.2.1
        rw [hms] at this
        exact this
end MTP
