/-! the reference: a trip's line -/
theorem up_up {K : Nat → Nat} {k a b : Nat} : up (up K k a) k b = up K k b := by
  funext j
  unfold up
  by_cases z : j = k
  · rw [if_pos z, if_pos z]
  · rw [if_neg z, if_neg z, if_neg z]
theorem up_ne {K : Nat → Nat} {k j v : Nat} (h : ¬ j = k) : up K k v j = K j := by rw [up, if_neg h]
theorem up_eq {K : Nat → Nat} {k v : Nat} : up K k v k = v := by rw [up, if_pos rfl]
/-- in a trip's line, behind its numbers -/
def tpS (s : RS) (t : Nat) : Prop := s.w = 9 ∧ s.f.length = 3 ∧ s.K 40 = t ∧ t < 16 ∧ s.K 37 ≤ 12 ∧ s.K 39 ≤ 16 ∧ s.K (105 + 6 * t) < s.K 37 ∧ (∀ q, q < 12 → s.K (41 + q) ≤ 99 ∧ s.K (53 + q) ≤ 99) ∧ s.on < 65536
def swS (s : RS) (k : Nat) : RS := mkS s.K s.ln s.w s.f s.on k s.sn s.sf s.se
theorem stp_t {s : RS} {t k v : Nat} (h : tpS s t) (hw : s.sw = 0) : stp s k v = if k = 11 ∨ k = 12 ∨ k = 13 then .ok (swS s k) else if k = 3 then (if s.on = 0 then .ok (endL s) else .error 3) else .error 1 := by
  obtain ⟨a, b, -⟩ := h
  rw [stp, if_neg (by omega), if_neg (by rw [a, b]; decide), if_pos a, if_neg (by omega)]
  rfl
theorem stp_n {s : RS} {t k v : Nat} (h : tpS s t) (hw : ¬ s.sw = 0) : stp s k v = (if ¬ k = 2 then .error 1
      else if ¬ v < (if s.sw = 11 then s.K 37 else s.K 39) then .error 3
      else if s.sw = 12 ∧ (s.K (106 + 6 * s.K 40)).testBit v = true then .error 3
      else if s.sw = 13 ∧ ¬ s.on.testBit v = true then .error 3
      else .ok (stpN s v)) := by
  obtain ⟨a, b, -⟩ := h
  rw [stp, if_neg (by omega), if_neg (by rw [a, b]; decide), if_pos a, if_pos hw]
theorem tpS.sw {s : RS} {t k : Nat} (h : tpS s t) : tpS (swS s k) t := h
theorem xor_lt {a v : Nat} (ha : a < 65536) (hv : v < 16) : a ^^^ 2 ^ v < 65536 := by
  have : 2 ^ v < 2 ^ 16 := Nat.pow_lt_pow_right (by omega) hv
  exact Nat.xor_lt_two_pow (n := 16) ha this
theorem tpS.leg {s : RS} {t v : Nat} (h : tpS s t) (hs : s.sw = 11) (hv : v < s.K 37) : tpS (stpN s v) t := by
  obtain ⟨a1, a2, a3, a4, a5, a6, a7, a8, a9⟩ := h
  have eK : (stpN s v).K = legK s.K (s.K 40) s.on v := by show (if s.sw = 11 then _ else _) = _; rw [if_pos hs]
  have eo : (stpN s v).on = s.on := by show (if s.sw = 11 then _ else _) = _; rw [if_pos hs]
  refine ⟨a1, a2, ?_, a4, ?_, ?_, ?_, fun q hq => ?_, by rw [eo]; exact a9⟩
  · rw [eK, legK_lo (by omega)]; exact a3
  · rw [eK, legK_lo (by omega)]; exact a5
  · rw [eK, legK_lo (by omega)]; exact a6
  · rw [eK, legK_lo (k := 37) (by omega), a3]
    show (if 105 + 6 * t = 105 + 6 * t then v else _) < _
    rw [if_pos rfl]
    exact hv
  · rw [eK, legK_lo (by omega), legK_lo (by omega)]; exact a8 q hq
theorem tpS.ld {s : RS} {t v : Nat} (h : tpS s t) (hs : s.sw = 12 ∨ s.sw = 13) (hv : v < 16) : tpS (stpN s v) t := by
  obtain ⟨a1, a2, a3, a4, a5, a6, a7, a8, a9⟩ := h
  have eK : ∀ k, (k < 101 ∨ k = 105 + 6 * t) → (stpN s v).K k = s.K k := by
    intro k hk
    show (if s.sw = 11 then legK s.K (s.K 40) s.on v else if s.sw = 12 then onK s.K (s.K 40) v else offK s.K (s.K 40) v) k = _
    rw [if_neg (by omega), a3]
    by_cases z : s.sw = 12
    · rw [if_pos z, onK, up_ne (by omega), up_ne (by omega)]
    · rw [if_neg z, offK, up_ne (by omega), up_ne (by omega)]
  have eo : (stpN s v).on = s.on ^^^ 2 ^ v := by show (if s.sw = 11 then _ else _) = _; rw [if_neg (by omega)]
  refine ⟨a1, a2, by rw [eK _ (by omega)]; exact a3, a4, by rw [eK _ (by omega)]; exact a5, by rw [eK _ (by omega)]; exact a6, by rw [eK _ (by omega), eK _ (by omega)]; exact a7, fun q hq => ?_, ?_⟩
  · rw [eK _ (by omega), eK _ (by omega)]; exact a8 q hq
  · rw [eo]; exact xor_lt a9 hv
section MTP
variable {mem mem0 : pm_M} {T p : Nat} {B : Nat → Nat} {s : RS}
theorem rowR.cg {K K' : Nat → Nat} (h : rowR 20869372 mem K) (e : K = K') : rowR 20869372 mem K' := e ▸ h
set_option maxRecDepth 100000 in
theorem lp_end {t : Nat} {s0 : RS} {p0 : Nat} {a3 a4 a6 a7 a8 : Option pm_v} (hk : tK B T p < 4) (hp : p ≤ T) (hS : tpS s t) (hsw : s.sw = 0) (hR : Rt B T s0 p0 s p) (hF : lnF mem0 mem) (hr : rowR 20869372 mem s.K) (hm : mtk mem B T p) : PR cX9_readTrip RX9 9 4 89 162 [some (pR 10009909 0), some (pI (nI t)), some (pI (nI (101 + 6 * t))), a3, a4, some (pI (nI s.on)), a6, a7, a8] [] mem (pm_RX cX9_readTrip (some .boolean) (fun r mem => ∃ x, r = some (pI x) ∧ LQ mem0 B T s0 p0 x mem)) := by
  have hm2 : ¬ nI (msort (tK B T p) T) = 2 := by
    unfold msort
    repeat' split
    all_goals first | decide | omega
  have h40 := hS.2.2.1
  have ht := hS.2.2.2.1
  have hon := hS.2.2.2.2.2.2.2.2
  -- all is well so far
  have fin : ¬ (tK B T p = 3 ∧ ¬ s.on = 0) → PR cX9_readTrip RX9 9 4 89 430 [some (pR 10009909 0), some (pI (nI t)), some (pI (nI (101 + 6 * t))), a3, a4, some (pI (nI s.on)), a6, a7, a8] [] mem (pm_RX cX9_readTrip (some .boolean) (fun r mem => ∃ x, r = some (pI x) ∧ LQ mem0 B T s0 p0 x mem)) := by
    intro hz
    refine pr_aload_n 431 dX9_readTrip_430 rfl rfl rfl ?_
    refine pr_getR0 434 dX9_readTrip_431 fX9_67 rfl ?_
    refine pr_bipush (40) 436 dX9_readTrip_434 (by decide) rfl ?_
    refine pr_dup2 rfl rfl 437 dX9_readTrip_436 rfl ?_
    refine pr_iaload 40 438 dX9_readTrip_437 rfl rfl rfl (by omega) rfl ?_
    rw [hr.1 40 (by omega) (by omega)]
    refine pr_iconst (1) 439 dX9_readTrip_438 (by decide) rfl ?_
    refine pr_iadd 440 dX9_readTrip_439 rfl ?_
    rw [nI_1]
    refine pr_iastore 40 441 dX9_readTrip_440 rfl rfl rfl (by omega) rfl ?_
    refine pr_iconst (1) 442 dX9_readTrip_441 (by decide) rfl ?_
    refine pr_zreturn dX9_readTrip_442 rfl (by first | exact Or.inl rfl | exact Or.inr rfl) ?_
    refine ⟨1, rfl, hF.u, Or.inl ⟨rfl, s, p, hR, ?_, hm.u, hp, by rw [hS.1]; decide, fun a => ?_, fun a b => ?_⟩⟩
    · refine (hr.w (k := 40) (v := s.K 40 + 1) (by omega) (by rw [cdI, if_neg (by omega)])).cg ?_
      unfold endK
      rw [hS.1]
      rfl
    · rw [stp_t hS hsw, if_neg (by omega), if_pos rfl, if_pos (by omega)]
    · rw [stp_t hS hsw, if_neg (by omega), if_neg a]
  by_cases k3 : tK B T p = 3
  · have hms : msort (tK B T p) T = 4 := by rw [k3]; rfl
    by_cases ho : s.on = 0
    · refine pr_aload_n 163 dX9_readTrip_162 rfl rfl rfl ?_
      refine pr_getI 166 dX9_readTrip_163 fX9_27 rfl ?_
      rw [hm.1]
      refine pr_iconst (2) 167 dX9_readTrip_166 (by decide) rfl ?_
      refine pr_icmp_ne 411 170 dX9_readTrip_167 rfl rfl (fun c_167 => ?_) (fun c_167 => absurd (c_167) (hm2))
      refine pr_aload_n 412 dX9_readTrip_411 rfl rfl rfl ?_
      refine pr_getI 415 dX9_readTrip_412 fX9_27 rfl ?_
      rw [hm.1]
      refine pr_iconst (4) 416 dX9_readTrip_415 (by decide) rfl ?_
      refine pr_icmp_ne 430 419 dX9_readTrip_416 rfl rfl (fun c_416 => absurd (by rw [hms]; rfl) (c_416)) (fun c_416 => ?_)
      refine pr_iload 421 dX9_readTrip_419 rfl rfl ?_
      refine pr_if_eq 430 424 dX9_readTrip_421 rfl rfl (fun c_421 => ?_) (fun c_421 => absurd (by rw [ho]; rfl) (c_421))
      exact fin (fun z => z.2 ho)
    · refine pr_aload_n 163 dX9_readTrip_162 rfl rfl rfl ?_
      refine pr_getI 166 dX9_readTrip_163 fX9_27 rfl ?_
      rw [hm.1]
      refine pr_iconst (2) 167 dX9_readTrip_166 (by decide) rfl ?_
      refine pr_icmp_ne 411 170 dX9_readTrip_167 rfl rfl (fun c_167 => ?_) (fun c_167 => absurd (c_167) (hm2))
      refine pr_aload_n 412 dX9_readTrip_411 rfl rfl rfl ?_
      refine pr_getI 415 dX9_readTrip_412 fX9_27 rfl ?_
      rw [hm.1]
      refine pr_iconst (4) 416 dX9_readTrip_415 (by decide) rfl ?_
      refine pr_icmp_ne 430 419 dX9_readTrip_416 rfl rfl (fun c_416 => absurd (by rw [hms]; rfl) (c_416)) (fun c_416 => ?_)
      refine pr_iload 421 dX9_readTrip_419 rfl rfl ?_
      refine pr_if_eq 430 424 dX9_readTrip_421 rfl rfl (fun c_421 => absurd (c_421) (nI_ne0 (by omega) (by omega))) (fun c_421 => ?_)
      refine pr_aload_n 425 dX9_readTrip_424 rfl rfl rfl ?_
      refine pr_iconst (3) 426 dX9_readTrip_425 (by decide) rfl ?_
      refine pr_invDR1 429 dX9_readTrip_426 vX9_110 mX9_bad (sp_X9_bad hm 3) ⟨Nat.le_of_ble_eq_true rfl, Nat.le_of_ble_eq_true rfl⟩ (Nat.le_of_ble_eq_true rfl) rfl (fun mem1 h1 => ?_)
      refine pr_zreturn dX9_readTrip_429 rfl (by first | exact Or.inl rfl | exact Or.inr rfl) ?_
      refine ⟨0, rfl, hF.tr h1.1.ln, Or.inr ⟨rfl, 3, _, hR _ (Rd.bad (by omega) ?_), ?_, h1.2.2.2⟩⟩
      · rw [stp_t hS hsw, if_neg (by omega), if_pos k3, if_neg ho]
      · have := h1.2.2.1
        rw [hms] at this
        exact this
  · have hms : ¬ nI (msort (tK B T p) T) = 4 := by
      unfold msort
      repeat' split
      all_goals first | decide | omega
    refine pr_aload_n 163 dX9_readTrip_162 rfl rfl rfl ?_
    refine pr_getI 166 dX9_readTrip_163 fX9_27 rfl ?_
    rw [hm.1]
    refine pr_iconst (2) 167 dX9_readTrip_166 (by decide) rfl ?_
    refine pr_icmp_ne 411 170 dX9_readTrip_167 rfl rfl (fun c_167 => ?_) (fun c_167 => absurd (c_167) (hm2))
    refine pr_aload_n 412 dX9_readTrip_411 rfl rfl rfl ?_
    refine pr_getI 415 dX9_readTrip_412 fX9_27 rfl ?_
    rw [hm.1]
    refine pr_iconst (4) 416 dX9_readTrip_415 (by decide) rfl ?_
    refine pr_icmp_ne 430 419 dX9_readTrip_416 rfl rfl (fun c_416 => ?_) (fun c_416 => absurd (c_416) (hms))
    exact fin (fun z => k3 z.1)
end MTP
