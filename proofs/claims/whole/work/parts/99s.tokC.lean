/-! the class: a token is a step: steps of a trip -/
theorem or_xor {on v : Nat} (h : ¬ on.testBit v = true) : on ||| 2 ^ v = on ^^^ 2 ^ v := by
  apply Nat.eq_of_testBit_eq
  intro i
  rw [Nat.testBit_or, Nat.testBit_xor, Nat.testBit_two_pow]
  by_cases e : v = i
  · subst e
    simp [Bool.not_eq_true _ ▸ h]
  · simp [e]
theorem or_self {on v : Nat} (h : on.testBit v = true) : on ||| 2 ^ v = on := by
  apply Nat.eq_of_testBit_eq
  intro i
  rw [Nat.testBit_or, Nat.testBit_two_pow]
  by_cases e : v = i
  · subst e
    simp [h]
  · simp [e]
section TKC
variable {mem : pm_M} {T p d : Nat} {B : Nat → Nat} {s : RS}
theorem ad_fr {n m : Nat} {k v : Int32} {m1 : pm_M} (hf : pm_fr (sRT d) mem m1) : pm_fr (sRT d) mem (adM m1 d n m k v) :=
  ((((hf.uI (Or.inr ⟨by simp [dkT], rfl⟩)).uI (Or.inr ⟨by simp [dkT], rfl⟩)).uI (Or.inr ⟨by simp [dkT], rfl⟩)).uI (Or.inr ⟨by simp [dkT], rfl⟩)).uI (Or.inl ⟨Or.inl rfl, rfl⟩)
/-- a step is added -/
theorem rdD_ad {M : pm_M} {K K' : Nat → Nat} {n sn : Nat} {sf : Nat → Nat × Nat} {se : Nat → Nat} {q : Nat × Nat} (h : rdD M d K (n + 1) sn sf se) (hK : ∀ k, k < 102 → K' k = K k) (h4 : ∀ t, t < n + 1 → K' (101 + 6 * t) = K (101 + 6 * t) ∧ K' (104 + 6 * t) = K (104 + 6 * t)) (hb : K 37 ≤ 12 ∧ K 38 ≤ 4 ∧ K 39 ≤ 16 ∧ n < 16) : rdD (adM M d n sn (nI q.1) (nI q.2)) d K' (n + 1) (sn + 1) (fun j => if j = sn then q else sf j) (up se n (sn + 1)) := by
  obtain ⟨⟨d1, d2, d3, d4, d5, d6⟩, dx, du, dw, dt, ds⟩ := h
  unfold rdD
  rw [hK 36 (by omega), hK 37 (by omega), hK 38 (by omega), hK 39 (by omega)]
  refine ⟨⟨?_, ?_, ?_, ?_, ?_, ?_⟩, fun j hj => ?_, fun j hj => ?_, fun j hj => ?_, fun j hj => ?_, fun j hj => ?_⟩
  · rw [pm_gIn (by simp), pm_gIn (by simp), pm_gIn (by simp), pm_gIn (by simp), pm_gIn (by simp)]; exact d1
  · rw [pm_gIn (by simp), pm_gIn (by simp), pm_gIn (by simp), pm_gIn (by simp), pm_gIn (by simp)]; exact d2
  · rw [pm_gIn (by simp), pm_gIn (by simp), pm_gIn (by simp), pm_gIn (by simp), pm_gIn (by simp)]; exact d3
  · rw [pm_gIn (by simp), pm_gIn (by simp), pm_gIn (by simp), pm_gIn (by simp), pm_gIn (by simp)]; exact d4
  · rw [pm_gIn (by simp), pm_gIn (by simp), pm_gIn (by simp), pm_gIn (by simp), pm_gIn (by simp)]; exact d5
  · rw [pm_gIn (by simp), pm_gIn (by simp), pm_gIe]
  · rw [hK _ (by omega), hK _ (by omega)]
    simpa [pm_gI] using dx j hj
  · rw [hK _ (by omega), hK _ (by omega)]
    simpa [pm_gI] using du j hj
  · rw [hK _ (by omega), hK _ (by omega), hK _ (by omega)]
    simpa [pm_gI] using dw j hj
  · rw [(h4 j hj).1, (h4 j hj).2, hK _ (by omega)]
    have := dt j hj
    by_cases z : j = n
    · subst z
      rw [up_eq]
      exact ⟨by simpa [pm_gI] using this.1, by simpa [pm_gI] using this.2.1, by simpa [pm_gI] using this.2.2.1, by simp [pm_gI]⟩
    · rw [up_ne z]
      simpa [pm_gI, z] using this
  · by_cases z : j = sn
    · subst z
      simp [pm_gI]
    · have := ds j (by omega)
      simpa [pm_gI, z] using this
/-- the reader's own numbers behind a step -/
theorem rdR_ad {M : pm_M} {K' : Nat → Nat} {n sn on' : Nat} {a b : Int32} {sf' : Nat → Nat × Nat} {se' : Nat → Nat} (h : rdR mem d s) (hw : ¬ s.w = 0) (h1 : M.2.2 = mem.2.2) (h2 : ∀ k, k ≠ 10 → k ≠ 11 → M.1 10004904 0 k = mem.1 10004904 0 k) (h3 : M.1 20003166 0 = mem.1 20003166 0) (h4 : M.1 10004904 0 10 = nI on') (h5 : s.w = 9 → M.1 10004904 0 11 = nI (K' (106 + 6 * K' 40))) : rdR (adM M d n sn a b) d (mkS K' s.ln s.w s.f on' 0 (sn + 1) sf' se') := by
  obtain ⟨r1, r2, r3, r4, r5⟩ := h
  obtain ⟨a1, a2, a3, a4, a5, a6⟩ := r5 hw
  refine ⟨?_, ?_, ?_, ?_, fun _ => ⟨?_, ?_, fun i hi => ?_, pm_gIe, ?_, fun h9 => ?_⟩⟩
  · show M.2.2 _ _ _ = _
    rw [h1]; exact r1
  · rw [pm_gIn (by simp), pm_gIn (by simp), pm_gIn (by simp), pm_gIn (by simp), pm_gIn (by simp), h2 _ (by decide) (by decide)]; exact r2
  · rw [pm_gIn (by simp), pm_gIn (by simp), pm_gIn (by simp), pm_gIn (by simp), pm_gIn (by simp), h2 _ (by decide) (by decide)]; exact r3
  · rw [pm_gIn (by simp), pm_gIn (by simp), pm_gIn (by simp), pm_gIn (by simp), pm_gIn (by simp), h2 _ (by decide) (by decide)]; exact r4
  · rw [pm_gIn (by simp), pm_gIn (by simp), pm_gIn (by simp), pm_gIn (by simp), pm_gIn (by simp), h2 _ (by decide) (by decide)]; exact a1
  · rw [pm_gIn (by simp), pm_gIn (by simp), pm_gIn (by simp), pm_gIn (by simp), pm_gIn (by simp), h2 _ (by decide) (by decide)]; exact a2
  · rw [pm_gIn (by simp), pm_gIn (by simp), pm_gIn (by simp), pm_gIn (by simp), pm_gIn (by simp), h3]; exact a3 i hi
  · rw [pm_gIn (by simp), pm_gIn (by simp), pm_gIn (by simp), pm_gIn (by simp), pm_gIn (by simp)]; exact h4
  · rw [pm_gIn (by simp), pm_gIn (by simp), pm_gIn (by simp), pm_gIn (by simp), pm_gIn (by simp)]; exact h5 h9
theorem stp_nn {k v : Nat} (hu : uw s) (hw : ¬ s.sw = 0) : stp s k v = (if ¬ k = 2 then .error 1
      else if ¬ v < (if s.sw = 11 then s.K 37 else s.K 39) then .error 3
      else if s.sw = 12 ∧ (s.K (106 + 6 * s.K 40)).testBit v = true then .error 3
      else if s.sw = 13 ∧ ¬ s.on.testBit v = true then .error 3
      else .ok (stpN s v)) := by
  obtain ⟨a, b⟩ := hu
  rw [stp, if_neg (by omega), if_neg (by rw [a, b]; decide), if_pos a, if_pos hw]
theorem tkC (hI : RI B T s p) (hT : T ≤ 840) (hk0 : ¬ tK B T p = 0) (hc : ctk mem B T p) (hR : rdR mem d s) (hD : rdD mem d s.K (tc s) s.sn s.sf s.se) (hu : uw s) (hsw : ¬ s.sw = 0) : Cl yX4_takeToken cX4_takeToken 1 (some .boolean) 5 104 [pR 10004904 0] mem (tkQ mem d s B T p) := by
  have hA := hI.1
  have hb := hA.1.1
  have hq := hI.2.2
  have w9 := hu.1
  have w0 : ¬ s.w = 0 := by omega
  have hK40 := hA.2.1.2.2.2.2.1 w9
  have hsub := hA.2.2.2.1 hu
  have hsw3 := hA.2.2.2.2.2
  obtain ⟨h1, h2, h3, h4, h5⟩ := id hR
  obtain ⟨a1, a2, a3, a4, a5, a6⟩ := h5 w0
  have a6 := a6 w9
  rw [if_neg w0] at h3
  rw [if_neg hsw] at a4
  have h3' := h3
  rw [w9] at h3'
  have a1' := a1
  rw [w9] at a1'
  have a2' := a2
  rw [hu.2] at a2'
  rw [tc_u hu] at hD
  have hsn : s.sn < 200 := by
    have hp := hq.1
    have h4 := (hq.2.2.2.2 hsw).1
    have hqq : ¬ min T 800 ≤ tQ B T p := fun z => hk0 (by rw [tK, if_pos z])
    have hq2 : p ≤ tQ B T p := by
      unfold tQ
      rcases Nat.lt_or_ge p (min T 800) with z | z
      · exact (sk_bd (by omega)).1
      · rw [sk_e (by omega)]; omega
    omega
  have e102 : ∀ (K' : Nat → Nat), (∀ k, K' k = on1 s.K (s.K 40) s.on (s.sw, tV B T p) k) → tV B T p < (if s.sw = 11 then s.K 37 else s.K 39) → ∀ k, ¬ jx k → K' k = s.K k := by
    intro K' hK hv k hk
    have hpl := (hA.1.2.2.2.2.1 (s.K 40) (by rw [tc_u hu]; omega)).2.2.2.2
    rw [hK]
    refine on1_nj hK40 (by omega) (fun z => ?_) (fun z => ?_) hk
    · have z' : s.sw = 11 := z
      rw [if_pos z'] at hv
      show tV B T p < 12
      omega
    · have z' : ¬ s.sw = 11 := z
      rw [if_neg z'] at hv
      show tV B T p < 16
      omega
  have eK : (if s.sw = 11 then legK s.K (s.K 40) s.on (tV B T p) else if s.sw = 12 then onK s.K (s.K 40) (tV B T p) else offK s.K (s.K 40) (tV B T p)) = on1 s.K (s.K 40) s.on (s.sw, tV B T p) := rfl
  have good : ∀ (M : pm_M) (on' : Nat), pm_fr (sRT d) mem M → M.2.2 = mem.2.2 → (∀ t ∈ dkT, M.1 t d = mem.1 t d) → (∀ k, k ≠ 10 → k ≠ 11 → M.1 10004904 0 k = mem.1 10004904 0 k) → M.1 20003166 0 = mem.1 20003166 0 → on' = (if s.sw = 11 then s.on else s.on ^^^ 2 ^ tV B T p) → M.1 10004904 0 10 = nI on' → M.1 10004904 0 11 = nI (on1 s.K (s.K 40) s.on (s.sw, tV B T p) (106 + 6 * s.K 40)) → tV B T p < (if s.sw = 11 then s.K 37 else s.K 39) → stp s (tK B T p) (tV B T p) = .ok (stpN s (tV B T p)) → tkQ mem d s B T p (some (pI 1)) (adM M d (s.K 40) s.sn (nI s.sw) (nI (tV B T p))) := by
    intro M on' hf hm hdk hrd htl eon hab hwa hv hst
    have hn := e102 (on1 s.K (s.K 40) s.on (s.sw, tV B T p)) (fun _ => rfl) hv
    have e40 := hn 40 (by unfold jx; omega)
    have et : tc (stpN s (tV B T p)) = on1 s.K (s.K 40) s.on (s.sw, tV B T p) 40 + 1 := if_pos hu
    refine tk_ok hst (ad_fr hf) ?_ ?_
    · have := rdR_ad (M := M) (d := d) (n := s.K 40) (sn := s.sn) (a := nI s.sw) (b := nI (tV B T p)) (K' := on1 s.K (s.K 40) s.on (s.sw, tV B T p)) (on' := on') (sf' := fun j => if j = s.sn then (s.sw, tV B T p) else s.sf j) (se' := up s.se (s.K 40) (s.sn + 1)) hR w0 hm hrd htl hab (fun _ => by rw [e40]; exact hwa)
      rw [eon] at this
      exact this
    · rw [et, e40]
      show rdD _ d (on1 s.K (s.K 40) s.on (s.sw, tV B T p)) _ (s.sn + 1) (fun j => if j = s.sn then (s.sw, tV B T p) else s.sf j) (up s.se (s.K 40) (s.sn + 1))
      exact rdD_ad (q := (s.sw, tV B T p)) (rdD.eq hD hdk) (fun k hk => hn k (by unfold jx; omega)) (fun t ht => ⟨hn _ (by unfold jx; omega), hn _ (by unfold jx; omega)⟩) ⟨hb.1, hb.2.1, hb.2.2.1, hK40⟩
  have bad : ∀ c, c = (if s.sw = 11 then s.K 37 else s.K 39) → ¬ tlOk B T p c → stp s (tK B T p) (tV B T p) = .error (if tK B T p = 2 then 3 else 1) := by
    intro c ec ok
    rw [stp_nn hu hsw, ← ec]
    by_cases k2 : tK B T p = 2
    · rw [if_neg (fun z => z k2), if_pos (fun z => ok ⟨k2, z⟩), if_pos k2]
    · rw [if_pos k2, if_neg k2]
  rcases hsw3 with z | z | z | z
  · exact absurd z hsw
  · have a4' := a4
    rw [z] at a4'
    refine Cl.mono (tt_step h3' a2' a1' (by decide) (by omega) z01 (sp_stepNum a4 (by omega) z01 (sp_stepTo hc h1 a4' hD.1.2.1 (by omega) hD.1.2.2.2.2.1 hK40 hD.1.2.2.2.2.2 hsn))) (fun r m h => ?_)
    obtain ⟨rfl, rfl⟩ := h
    by_cases ok : tlOk B T p (s.K 37)
    · rw [if_pos ok, if_pos ok, ← z]
      refine good mem s.on pm_fr.rf rfl (fun _ _ => rfl) (fun _ _ _ => rfl) rfl (by rw [if_pos z]) a5 ?_ (by rw [if_pos z]; exact ok.2) ?_
      · rw [a6, on1]
        show nI _ = nI ((if s.sw = 11 then legK s.K (s.K 40) s.on (tV B T p) else _) (106 + 6 * s.K 40))
        rw [if_pos z, legK, if_neg (by omega), if_neg (by omega), if_neg (by omega), if_neg (by omega), if_neg (by omega)]
      · rw [stp_nn hu hsw, if_neg (fun y => y ok.1), if_pos z, if_neg (fun y => y ok.2), if_neg (fun y => by omega), if_neg (fun y => by omega)]
    · rw [if_neg ok, if_neg ok]
      exact tk_bad (bad _ (by rw [if_pos z]) ok) pm_fr.rf rfl
  · have a4' := a4
    rw [z] at a4'
    refine Cl.mono (tt_step h3' a2' a1' (by decide) (by omega) z01 (sp_stepNum a4 (by omega) z01 (sp_stepOn hc h1 a4' hD.1.2.2.2.1 hb.2.2.1 hD.1.2.2.2.2.1 hK40 hD.1.2.2.2.2.2 hsn a5 a6))) (fun r m h => ?_)
    obtain ⟨rfl, rfl⟩ := h
    by_cases ok : tlOk B T p (s.K 39)
    · by_cases bt : (s.K (106 + 6 * s.K 40)).testBit (tV B T p) = true
      · rw [if_neg (fun y => y.2 bt), if_neg (fun y => y.2 bt), if_pos ok.1]
        refine tk_bad ?_ pm_fr.rf rfl
        rw [stp_nn hu hsw, if_neg (fun y => y ok.1), if_neg (show ¬ s.sw = 11 by omega), if_neg (fun y => y ok.2), if_pos ⟨z, bt⟩]
      · rw [if_pos ⟨ok, bt⟩, if_pos ⟨ok, bt⟩, ← z]
        refine good _ (s.on ||| 2 ^ tV B T p) ((pm_fr.rf.uI (Or.inl ⟨Or.inl rfl, rfl⟩)).uI (Or.inl ⟨Or.inl rfl, rfl⟩)) rfl (fun t ht => by rw [dk_R t ht, dk_R t ht]) (fun k q1 q2 => by rw [pm_gIn (fun y => q2 y.2.2), pm_gIn (fun y => q1 y.2.2)]) (by funext j; rw [pm_gIn (by simp), pm_gIn (by simp)]) ?_ (by rw [pm_gIn (by simp), pm_gIe]) ?_ (by rw [if_neg (by omega)]; exact ok.2) ?_
        · rw [if_neg (by omega)]
          exact or_xor (fun y => bt (hsub _ y))
        · rw [pm_gIe, on1]
          show _ = nI ((if s.sw = 11 then _ else if s.sw = 12 then onK s.K (s.K 40) (tV B T p) else _) (106 + 6 * s.K 40))
          rw [if_neg (by omega), if_pos z, onK, up_eq]
        · rw [stp_nn hu hsw, if_neg (fun y => y ok.1), if_neg (show ¬ s.sw = 11 by omega), if_neg (fun y => y ok.2), if_neg (fun y => bt y.2), if_neg (fun y => by omega)]
    · rw [if_neg (fun y => ok y.1), if_neg (fun y => ok y.1)]
      exact tk_bad (bad _ (by rw [if_neg (by omega)]) ok) pm_fr.rf rfl
  · have a4' := a4
    rw [z] at a4'
    refine Cl.mono (tt_step h3' a2' a1' (by decide) (by omega) z01 (sp_stepNum a4 (by omega) z01 (sp_stepOff hc h1 a4' hD.1.2.2.2.1 hb.2.2.1 hD.1.2.2.2.2.1 hK40 hD.1.2.2.2.2.2 hsn a5))) (fun r m h => ?_)
    obtain ⟨rfl, rfl⟩ := h
    by_cases ok : tlOk B T p (s.K 39)
    · by_cases bt : s.on.testBit (tV B T p) = true
      · rw [if_pos ⟨ok, bt⟩, if_pos ⟨ok, bt⟩, ← z]
        refine good _ (s.on ^^^ 2 ^ tV B T p) (pm_fr.rf.uI (Or.inl ⟨Or.inl rfl, rfl⟩)) rfl (fun t ht => by rw [dk_R t ht]) (fun k q1 q2 => by rw [pm_gIn (fun y => q1 y.2.2)]) (by funext j; rw [pm_gIn (by simp)]) (by rw [if_neg (by omega)]) pm_gIe ?_ (by rw [if_neg (by omega)]; exact ok.2) ?_
        · rw [pm_gIn (by simp), a6, on1]
          show _ = nI ((if s.sw = 11 then _ else if s.sw = 12 then _ else offK s.K (s.K 40) (tV B T p)) (106 + 6 * s.K 40))
          rw [if_neg (by omega), if_neg (by omega), offK, up_eq, or_self (hsub _ bt)]
        · rw [stp_nn hu hsw, if_neg (fun y => y ok.1), if_neg (show ¬ s.sw = 11 by omega), if_neg (fun y => y ok.2), if_neg (fun y => by omega), if_neg (fun y => y.2 bt)]
      · rw [if_neg (fun y => bt y.2), if_neg (fun y => bt y.2), if_pos ok.1]
        refine tk_bad ?_ pm_fr.rf rfl
        rw [stp_nn hu hsw, if_neg (fun y => y ok.1), if_neg (show ¬ s.sw = 11 by omega), if_neg (fun y => y ok.2), if_neg (fun y => by omega), if_pos ⟨z, bt⟩]
    · rw [if_neg (fun y => ok y.1), if_neg (fun y => ok y.1)]
      exact tk_bad (bad _ (by rw [if_neg (by omega)]) ok) pm_fr.rf rfl
end TKC
