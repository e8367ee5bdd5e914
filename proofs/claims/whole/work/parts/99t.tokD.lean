/-! the class: a token is a step: words of a trip, ends of lines; any token -/
section TKD
variable {mem : pm_M} {T p d : Nat} {B : Nat → Nat} {s : RS}
theorem rdR_en {M : pm_M} (h : rdR mem d s) (h1 : M.2.2 = mem.2.2) (h2 : M.1 10004904 0 = mem.1 10004904 0) : rdR (enM M s.ln) d (endL s) := by
  obtain ⟨r1, r2, r3, r4, r5⟩ := h
  refine ⟨?_, pm_gIe, ?_, ?_, fun z => absurd rfl z⟩
  · show M.2.2 _ _ _ = _
    rw [h1]; exact r1
  · rw [pm_gIn (by simp), pm_gIe]; rfl
  · rw [pm_gIn (by simp), pm_gIn (by simp), h2]; exact r4
theorem en_fr {M : pm_M} {ln : Nat} (hf : pm_fr (sRT d) mem M) : pm_fr (sRT d) mem (enM M ln) := (hf.uI (Or.inl ⟨Or.inl rfl, rfl⟩)).uI (Or.inl ⟨Or.inl rfl, rfl⟩)
theorem rdD_en {M : pm_M} {K : Nat → Nat} {n sn ln : Nat} {sf : Nat → Nat × Nat} {se : Nat → Nat} (h : rdD M d K n sn sf se) : rdD (enM M ln) d K n sn sf se := rdD.eq h (fun t ht => by rw [dk_R t ht, dk_R t ht])
/-- between steps -/
theorem tkE (hI : RI B T s p) (hc : ctk mem B T p) (hR : rdR mem d s) (hD : rdD mem d s.K (tc s) s.sn s.sf s.se) (hu : uw s) (hsw : s.sw = 0) : Cl yX4_takeToken cX4_takeToken 1 (some .boolean) 5 104 [pR 10004904 0] mem (tkQ mem d s B T p) := by
  have hA := hI.1
  have w9 := hu.1
  have w0 : ¬ s.w = 0 := by omega
  obtain ⟨h1, h2, h3, h4, h5⟩ := id hR
  obtain ⟨a1, a2, a3, a4, a5, a6⟩ := h5 w0
  rw [if_neg w0] at h3
  rw [if_pos hsw] at a4
  rw [w9] at h3
  have a1' := a1
  rw [w9] at a1'
  have a2' := a2
  rw [hu.2] at a2'
  have hst : ∀ k v, stp s k v = if k = 11 ∨ k = 12 ∨ k = 13 then .ok (swS s k) else if k = 3 then (if s.on = 0 then .ok (endL s) else .error 3) else .error 1 := by
    intro k v
    rw [stp, if_neg (by omega), if_neg (by rw [w9, hu.2]; decide), if_pos w9, if_neg (by omega)]
    rfl
  by_cases k1 : tK B T p = 11 ∨ tK B T p = 12 ∨ tK B T p = 13
  · refine Cl.mono (tt_step h3 a2' a1' (by decide) (by omega) (Or.inr rfl) (sp_takeStepW hc a4 k1)) (fun r m h => ?_)
    obtain ⟨rfl, rfl⟩ := h
    refine tk_ok (s' := swS s (tK B T p)) (by rw [hst, if_pos k1]) (pm_fr.rf.uI (Or.inl ⟨Or.inl rfl, rfl⟩)) ⟨h1, ?_, ?_, ?_, fun _ => ⟨?_, ?_, fun i hi => ?_, ?_, ?_, fun h9 => ?_⟩⟩ ?_
    · rw [pm_gIn (by simp)]; exact h2
    · rw [pm_gIn (by simp), h3]
      show _ = if s.w = 0 then _ else nI s.w
      rw [if_neg w0, w9]
    · rw [pm_gIn (by simp)]; exact h4
    · rw [pm_gIn (by simp)]; exact a1
    · rw [pm_gIn (by simp)]; exact a2
    · rw [pm_gIn (by simp)]; exact a3 i hi
    · rw [pm_gIe]
      show _ = if tK B T p = 0 then _ else nI (tK B T p)
      rw [if_neg (by omega)]
    · rw [pm_gIn (by simp)]; exact a5
    · rw [pm_gIn (by simp)]; exact a6 h9
    · have : tc (swS s (tK B T p)) = tc s := rfl
      rw [this]
      exact rdD.eq hD (fun t ht => by rw [dk_R t ht])
  by_cases k3 : tK B T p = 3
  · have hon : s.on < 65536 := by
      have hsub := hA.2.2.2.1 hu
      have h6 := (hA.1.2.2.2.2.2.1 (s.K 40) (by rw [tc_u hu]; omega)).1
      refine Nat.lt_of_le_of_lt ?_ h6
      have e : s.on ||| s.K (106 + 6 * s.K 40) = s.K (106 + 6 * s.K 40) := by
        apply Nat.eq_of_testBit_eq
        intro i
        rw [Nat.testBit_or]
        by_cases b : s.on.testBit i = true
        · rw [hsub i b]; simp
        · simp [Bool.not_eq_true _ ▸ b]
      rw [← e]
      exact Nat.left_le_or
    refine Cl.mono (tt_step h3 a2' a1' (by decide) (by omega) z01 (sp_takeStepE hc a4 k3 a5 hon h3 h2)) (fun r m h => ?_)
    obtain ⟨rfl, rfl⟩ := h
    by_cases o : s.on = 0
    · rw [if_pos o, if_pos o]
      refine tk_ok (s' := endL s) (by rw [hst, if_neg k1, if_pos k3, if_pos o]) (en_fr pm_fr.rf) (rdR_en hR rfl rfl) ?_
      have hu' : ¬ uw (endL s) := fun z => by cases z.1
      have ek : (endL s).K = up s.K 40 (s.K 40 + 1) := by
        show endK s = _
        rw [endK, if_neg (by omega), if_neg (by omega), if_neg (by omega), if_neg (by omega)]
      rw [tc_n hu', ek, up_eq]
      rw [tc_u hu] at hD
      have hK40 := hA.2.1.2.2.2.2.1 w9
      have hb := hA.1.1
      refine rdD_en ?_
      obtain ⟨⟨d1, d2, d3, d4, d5, d6⟩, dx, du, dw, dt, ds⟩ := hD
      have ue : ∀ k, ¬ k = 40 → up s.K 40 (s.K 40 + 1) k = s.K k := fun k hk => up_ne hk
      unfold rdD
      rw [ue 36 (by omega), ue 37 (by omega), ue 38 (by omega), ue 39 (by omega)]
      refine ⟨⟨d1, d2, d3, d4, d5, d6⟩, fun q hq => ?_, fun q hq => ?_, fun q hq => ?_, fun q hq => ?_, ds⟩
      · rw [ue _ (by omega), ue _ (by omega)]; exact dx q hq
      · rw [ue _ (by omega), ue _ (by omega)]; exact du q hq
      · rw [ue _ (by omega), ue _ (by omega), ue _ (by omega)]; exact dw q hq
      · rw [ue _ (by omega), ue _ (by omega), ue _ (by omega)]; exact dt q hq
    · rw [if_neg o, if_neg o]
      exact tk_bad (by rw [hst, if_neg k1, if_pos k3, if_neg o]) pm_fr.rf rfl
  · refine Cl.mono (tt_step h3 a2' a1' (by decide) (by omega) (Or.inl rfl) (sp_takeStepX hc a4 (fun z => by omega))) (fun r m h => ?_)
    obtain ⟨rfl, rfl⟩ := h
    exact tk_bad (by rw [hst, if_neg k1, if_neg k3]) pm_fr.rf rfl
/-- the end of a line that is no trip -/
theorem tkF (hI : RI B T s p) (hc : ctk mem B T p) (hR : rdR mem d s) (hD : rdD mem d s.K (tc s) s.sn s.sf s.se) (w0 : ¬ s.w = 0) (hl : ¬ s.f.length < wnt s.w) (w9 : ¬ s.w = 9) : Cl yX4_takeToken cX4_takeToken 1 (some .boolean) 5 104 [pR 10004904 0] mem (tkQ mem d s B T p) := by
  have hA := hI.1
  have hb := hA.1.1
  have hw5 := hA.2.1.1
  have hlen : s.f.length = wnt s.w := by have := hA.2.1.2.2.2.2.2 w0; omega
  have hF := hA.2.2.1 w0
  have w3 := wnt_le s.w
  have hu : ¬ uw s := fun z => w9 z.1
  have hu' : ¬ uw (endL s) := fun z => by cases z.1
  obtain ⟨h1, h2, h3, h4, h5⟩ := id hR
  obtain ⟨a1, a2, a3, a4, a5, a6⟩ := h5 w0
  rw [if_neg w0] at h3
  rw [tc_n hu] at hD
  have hst : ∀ k v, stp s k v = if k = 3 then .ok (endL s) else .error 1 := by
    intro k v
    rw [stp, if_neg w0, if_neg hl, if_neg w9]
  by_cases k3 : tK B T p = 3
  · have hk3 : mem.1 10006906 0 1 = nI 3 := by rw [hc.1, k3]
    have hs : stp s (tK B T p) (tV B T p) = .ok (endL s) := by rw [hst, if_pos k3]
    have fI0 : ∀ i x, fI s.w i x = nI x := fun i x => by rw [fI, if_neg (fun z => w9 z.1)]
    have t0 : 0 < s.f.length → mem.1 20003166 0 0 = nI (s.f.getD 0 0) := fun z => by rw [a3 0 z, fI0]
    have t1 : 1 < s.f.length → mem.1 20003166 0 1 = nI (s.f.getD 1 0) := fun z => by rw [a3 1 z, fI0]
    have t2 : 2 < s.f.length → mem.1 20003166 0 2 = nI (s.f.getD 2 0) := fun z => by rw [a3 2 z, fI0]
    obtain ⟨⟨d1, d2, d3, d4, d5, d6⟩, dx, du, dw, dt, ds⟩ := id hD
    rcases (by omega : s.w = 5 ∨ s.w = 6 ∨ s.w = 7 ∨ s.w = 8) with e | e | e | e
    · have h3' := h3
      rw [e] at h3' hlen
      have hl1 : s.f.length = 1 := hlen
      refine Cl.mono (tt_end hk3 h3 (by omega) a2 a1 (by omega) (by omega) (sp_endLine5 h1 h3' h2)) (fun r m h => ?_)
      obtain ⟨rfl, rfl⟩ := h
      refine tk_ok hs (en_fr (pm_fr.rf.uI (Or.inr ⟨by simp [dkT], rfl⟩))) (rdR_en hR rfl (by funext z; rw [pm_gIn (by simp)])) ?_
      have ek : (endL s).K = up s.K 36 (s.f.getD 0 0) := by
        show endK s = _
        rw [endK, if_pos e]
      rw [tc_n hu', ek, up_ne (by omega), t0 (by omega)]
      show rdD _ d _ _ s.sn s.sf s.se
      refine rdD_en ?_
      have ue : ∀ k, ¬ k = 36 → up s.K 36 (s.f.getD 0 0) k = s.K k := fun k hk => up_ne hk
      unfold rdD
      rw [up_eq, ue 37 (by omega), ue 38 (by omega), ue 39 (by omega)]
      refine ⟨⟨pm_gIe, ?_, ?_, ?_, ?_, ?_⟩, fun q hq => ?_, fun q hq => ?_, fun q hq => ?_, fun q hq => ?_, fun q hq => ?_⟩
      · rw [pm_gIn (by simp)]; exact d2
      · rw [pm_gIn (by simp)]; exact d3
      · rw [pm_gIn (by simp)]; exact d4
      · rw [pm_gIn (by simp)]; exact d5
      · rw [pm_gIn (by simp)]; exact d6
      · rw [ue _ (by omega), ue _ (by omega)]; simpa [pm_gI] using dx q hq
      · rw [ue _ (by omega), ue _ (by omega)]; simpa [pm_gI] using du q hq
      · rw [ue _ (by omega), ue _ (by omega), ue _ (by omega)]; simpa [pm_gI] using dw q hq
      · rw [ue _ (by omega), ue _ (by omega), ue _ (by omega)]; simpa [pm_gI] using dt q hq
      · simpa [pm_gI] using ds q hq
    · have h3' := h3
      rw [e] at h3' hlen
      have hl1 : s.f.length = 2 := hlen
      have h12 := hA.2.1.2.1 e
      refine Cl.mono (tt_end hk3 h3 (by omega) a2 a1 (by omega) (by omega) (sp_endLine6 h1 h3' h2 d2 h12)) (fun r m h => ?_)
      obtain ⟨rfl, rfl⟩ := h
      refine tk_ok hs (en_fr (((pm_fr.rf.uI (Or.inr ⟨by simp [dkT], rfl⟩)).uI (Or.inr ⟨by simp [dkT], rfl⟩)).uI (Or.inr ⟨by simp [dkT], rfl⟩))) (rdR_en hR rfl (by funext z; rw [pm_gIn (by simp), pm_gIn (by simp), pm_gIn (by simp)])) ?_
      have ek : (endL s).K = up (up (up s.K (41 + s.K 37) (s.f.getD 0 0)) (53 + s.K 37) (s.f.getD 1 0)) 37 (s.K 37 + 1) := by
        show endK s = _
        rw [endK, if_neg (by omega), if_pos e]
      rw [tc_n hu', ek, up_ne (by omega), up_ne (by omega), up_ne (by omega), t0 (by omega), t1 (by omega)]
      show rdD _ d _ _ s.sn s.sf s.se
      refine rdD_en ?_
      have ue : ∀ k, ¬ k = 37 → ¬ k = 41 + s.K 37 → ¬ k = 53 + s.K 37 → up (up (up s.K (41 + s.K 37) (s.f.getD 0 0)) (53 + s.K 37) (s.f.getD 1 0)) 37 (s.K 37 + 1) k = s.K k := fun k q1 q2 q3 => by rw [up_ne q1, up_ne q3, up_ne q2]
      unfold rdD
      rw [ue 36 (by omega) (by omega) (by omega), up_eq, ue 38 (by omega) (by omega) (by omega), ue 39 (by omega) (by omega) (by omega)]
      refine ⟨⟨?_, pm_gIe, ?_, ?_, ?_, ?_⟩, fun q hq => ?_, fun q hq => ?_, fun q hq => ?_, fun q hq => ?_, fun q hq => ?_⟩
      · rw [pm_gIn (by simp), pm_gIn (by simp), pm_gIn (by simp)]; exact d1
      · rw [pm_gIn (by simp), pm_gIn (by simp), pm_gIn (by simp)]; exact d3
      · rw [pm_gIn (by simp), pm_gIn (by simp), pm_gIn (by simp)]; exact d4
      · rw [pm_gIn (by simp), pm_gIn (by simp), pm_gIn (by simp)]; exact d5
      · rw [pm_gIn (by simp), pm_gIn (by simp), pm_gIn (by simp)]; exact d6
      · by_cases z : q = s.K 37
        · subst z
          rw [up_ne (by omega), up_ne (by omega), up_eq, up_ne (by omega), up_eq]
          simp [pm_gI]
        · rw [ue _ (by omega) (by omega) (by omega), ue _ (by omega) (by omega) (by omega)]; simpa [pm_gI, z] using dx q (by omega)
      · rw [ue _ (by omega) (by omega) (by omega), ue _ (by omega) (by omega) (by omega)]; simpa [pm_gI] using du q hq
      · rw [ue _ (by omega) (by omega) (by omega), ue _ (by omega) (by omega) (by omega), ue _ (by omega) (by omega) (by omega)]; simpa [pm_gI] using dw q hq
      · rw [ue _ (by omega) (by omega) (by omega), ue _ (by omega) (by omega) (by omega), ue _ (by omega) (by omega) (by omega)]; simpa [pm_gI] using dt q hq
      · simpa [pm_gI] using ds q hq
    · have h3' := h3
      rw [e] at h3' hlen
      have hl1 : s.f.length = 2 := hlen
      have h12 := hA.2.1.2.2.1 e
      refine Cl.mono (tt_end hk3 h3 (by omega) a2 a1 (by omega) (by omega) (sp_endLine7 h1 h3' h2 d3 h12)) (fun r m h => ?_)
      obtain ⟨rfl, rfl⟩ := h
      refine tk_ok hs (en_fr (((pm_fr.rf.uI (Or.inr ⟨by simp [dkT], rfl⟩)).uI (Or.inr ⟨by simp [dkT], rfl⟩)).uI (Or.inr ⟨by simp [dkT], rfl⟩))) (rdR_en hR rfl (by funext z; rw [pm_gIn (by simp), pm_gIn (by simp), pm_gIn (by simp)])) ?_
      have ek : (endL s).K = up (up (up s.K (65 + s.K 38) (s.f.getD 0 0)) (s.K 38) (s.f.getD 1 0)) 38 (s.K 38 + 1) := by
        show endK s = _
        rw [endK, if_neg (by omega), if_neg (by omega), if_pos e]
      rw [tc_n hu', ek, up_ne (by omega), up_ne (by omega), up_ne (by omega), t0 (by omega), t1 (by omega)]
      show rdD _ d _ _ s.sn s.sf s.se
      refine rdD_en ?_
      have ue : ∀ k, ¬ k = 38 → ¬ k = 65 + s.K 38 → ¬ k = s.K 38 → up (up (up s.K (65 + s.K 38) (s.f.getD 0 0)) (s.K 38) (s.f.getD 1 0)) 38 (s.K 38 + 1) k = s.K k := fun k q1 q2 q3 => by rw [up_ne q1, up_ne q3, up_ne q2]
      unfold rdD
      rw [ue 36 (by omega) (by omega) (by omega), up_eq, ue 37 (by omega) (by omega) (by omega), ue 39 (by omega) (by omega) (by omega)]
      refine ⟨⟨?_, ?_, pm_gIe, ?_, ?_, ?_⟩, fun q hq => ?_, fun q hq => ?_, fun q hq => ?_, fun q hq => ?_, fun q hq => ?_⟩
      · rw [pm_gIn (by simp), pm_gIn (by simp), pm_gIn (by simp)]; exact d1
      · rw [pm_gIn (by simp), pm_gIn (by simp), pm_gIn (by simp)]; exact d2
      · rw [pm_gIn (by simp), pm_gIn (by simp), pm_gIn (by simp)]; exact d4
      · rw [pm_gIn (by simp), pm_gIn (by simp), pm_gIn (by simp)]; exact d5
      · rw [pm_gIn (by simp), pm_gIn (by simp), pm_gIn (by simp)]; exact d6
      · rw [ue _ (by omega) (by omega) (by omega), ue _ (by omega) (by omega) (by omega)]; simpa [pm_gI] using dx q hq
      · by_cases z : q = s.K 38
        · subst z
          rw [up_ne (by omega), up_ne (by omega), up_eq, up_ne (by omega), up_eq]
          simp [pm_gI]
        · rw [ue _ (by omega) (by omega) (by omega), ue _ (by omega) (by omega) (by omega)]; simpa [pm_gI, z] using du q (by omega)
      · rw [ue _ (by omega) (by omega) (by omega), ue _ (by omega) (by omega) (by omega), ue _ (by omega) (by omega) (by omega)]; simpa [pm_gI] using dw q hq
      · rw [ue _ (by omega) (by omega) (by omega), ue _ (by omega) (by omega) (by omega), ue _ (by omega) (by omega) (by omega)]; simpa [pm_gI] using dt q hq
      · simpa [pm_gI] using ds q hq
    · have h3' := h3
      rw [e] at h3' hlen
      have hl1 : s.f.length = 3 := hlen
      have h12 := hA.2.1.2.2.2.1 e
      refine Cl.mono (tt_end hk3 h3 (by omega) a2 a1 (by omega) (by omega) (sp_endLine8 h1 h3' h2 d4 h12)) (fun r m h => ?_)
      obtain ⟨rfl, rfl⟩ := h
      refine tk_ok hs (en_fr ((((pm_fr.rf.uI (Or.inr ⟨by simp [dkT], rfl⟩)).uI (Or.inr ⟨by simp [dkT], rfl⟩)).uI (Or.inr ⟨by simp [dkT], rfl⟩)).uI (Or.inr ⟨by simp [dkT], rfl⟩))) (rdR_en hR rfl (by funext z; rw [pm_gIn (by simp), pm_gIn (by simp), pm_gIn (by simp), pm_gIn (by simp)])) ?_
      have ek : (endL s).K = up (up (up (up s.K (20 + s.K 39) (s.f.getD 0 0)) (69 + s.K 39) (s.f.getD 1 0)) (85 + s.K 39) (s.f.getD 2 0)) 39 (s.K 39 + 1) := by
        show endK s = _
        rw [endK, if_neg (by omega), if_neg (by omega), if_neg (by omega), if_pos e]
      rw [tc_n hu', ek, up_ne (by omega), up_ne (by omega), up_ne (by omega), up_ne (by omega), t0 (by omega), t1 (by omega), t2 (by omega)]
      show rdD _ d _ _ s.sn s.sf s.se
      refine rdD_en ?_
      have ue : ∀ k, ¬ k = 39 → ¬ k = 20 + s.K 39 → ¬ k = 69 + s.K 39 → ¬ k = 85 + s.K 39 → up (up (up (up s.K (20 + s.K 39) (s.f.getD 0 0)) (69 + s.K 39) (s.f.getD 1 0)) (85 + s.K 39) (s.f.getD 2 0)) 39 (s.K 39 + 1) k = s.K k := fun k q1 q2 q3 q4 => by rw [up_ne q1, up_ne q4, up_ne q3, up_ne q2]
      unfold rdD
      rw [ue 36 (by omega) (by omega) (by omega) (by omega), up_eq, ue 37 (by omega) (by omega) (by omega) (by omega), ue 38 (by omega) (by omega) (by omega) (by omega)]
      refine ⟨⟨?_, ?_, ?_, pm_gIe, ?_, ?_⟩, fun q hq => ?_, fun q hq => ?_, fun q hq => ?_, fun q hq => ?_, fun q hq => ?_⟩
      · rw [pm_gIn (by simp), pm_gIn (by simp), pm_gIn (by simp), pm_gIn (by simp)]; exact d1
      · rw [pm_gIn (by simp), pm_gIn (by simp), pm_gIn (by simp), pm_gIn (by simp)]; exact d2
      · rw [pm_gIn (by simp), pm_gIn (by simp), pm_gIn (by simp), pm_gIn (by simp)]; exact d3
      · rw [pm_gIn (by simp), pm_gIn (by simp), pm_gIn (by simp), pm_gIn (by simp)]; exact d5
      · rw [pm_gIn (by simp), pm_gIn (by simp), pm_gIn (by simp), pm_gIn (by simp)]; exact d6
      · rw [ue _ (by omega) (by omega) (by omega) (by omega), ue _ (by omega) (by omega) (by omega) (by omega)]; simpa [pm_gI] using dx q hq
      · rw [ue _ (by omega) (by omega) (by omega) (by omega), ue _ (by omega) (by omega) (by omega) (by omega)]; simpa [pm_gI] using du q hq
      · by_cases z : q = s.K 39
        · subst z
          rw [up_ne (by omega), up_ne (by omega), up_ne (by omega), up_eq, up_ne (by omega), up_ne (by omega), up_eq, up_ne (by omega), up_eq]
          simp [pm_gI]
        · rw [ue _ (by omega) (by omega) (by omega) (by omega), ue _ (by omega) (by omega) (by omega) (by omega), ue _ (by omega) (by omega) (by omega) (by omega)]; simpa [pm_gI, z] using dw q (by omega)
      · rw [ue _ (by omega) (by omega) (by omega) (by omega), ue _ (by omega) (by omega) (by omega) (by omega), ue _ (by omega) (by omega) (by omega) (by omega)]; simpa [pm_gI] using dt q hq
      · simpa [pm_gI] using ds q hq
  · refine Cl.mono (tt_ref hc k3 h3 (by omega) a2 a1 (by omega) (by omega)) (fun r m h => ?_)
    obtain ⟨rfl, rfl⟩ := h
    exact tk_bad (by rw [hst, if_neg k3]) pm_fr.rf rfl
/-- any token -/
theorem tkT (hI : RI B T s p) (hT : T ≤ 840) (hk0 : ¬ tK B T p = 0) (hc : ctk mem B T p) (hR : rdR mem d s) (hD : rdD mem d s.K (tc s) s.sn s.sf s.se) : Cl yX4_takeToken cX4_takeToken 1 (some .boolean) 5 104 [pR 10004904 0] mem (tkQ mem d s B T p) := by
  by_cases w0 : s.w = 0
  · exact tkA hI hT hc hR hD w0
  by_cases hl : s.f.length < wnt s.w
  · exact tkB hI hT hc hR hD w0 hl
  by_cases w9 : s.w = 9
  · have hu : uw s := ⟨w9, by have := hI.1.2.1.2.2.2.2.2 w0; rw [w9] at this hl; have h3 : s.f.length ≤ 3 := this; have h4 : ¬ s.f.length < 3 := hl; omega⟩
    by_cases hsw : s.sw = 0
    · exact tkE hI hc hR hD hu hsw
    · exact tkC hI hT hk0 hc hR hD hu hsw
  · exact tkF hI hc hR hD w0 hl w9
end TKD
