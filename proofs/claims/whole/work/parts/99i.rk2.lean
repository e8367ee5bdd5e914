/-! what is kept along a token -/
theorem RA_k {s s' : RS} {k v : Nat} (hA : RA s) (h : stp s k v = .ok s') : RA s' := by
  obtain ⟨b, w, f, o1, o2, o3⟩ := hA
  rcases stp_cs h with ⟨w0, k', hk, rfl⟩ | ⟨w0, hl, x, hx, rfl⟩ | ⟨w9, hl, sw0, k2, hv, h12, h13, rfl⟩ | ⟨w9, hl, sw0, hk, rfl⟩ | ⟨w0, hl, h9, k3, rfl⟩
  · have hu : ¬ uw s := fun z => by have := z.1; omega
    rw [tc_n hu] at b
    have hu' : ¬ uw (begL s k') := fun z => by have := z.2; cases this
    refine ⟨by rw [tc_n hu']; exact b, ?_, fun _ => ?_, fun z => absurd z hu', fun _ => ⟨rfl, rfl⟩, Or.inl rfl⟩
    · show wB s.K k' 0
      unfold wB
      omega
    · show FX s.K k' []
      unfold FX
      simp
  · have hx := fld_ok hx
    have w3 := wnt_le s.w
    have hF := FX_push (f w0) (by omega) hx
    have hu : ¬ uw s := fun z => by rw [z.1, z.2] at hl; exact absurd hl (by decide)
    have o2 := o2 hu
    rw [tc_n hu] at b
    unfold push
    by_cases c : s.w = 9 ∧ s.f.length = 2
    · rw [if_pos c]
      have hF0 := f w0
      have e3 : (s.f ++ [x]).length = 3 := by rw [List.length_append, c.2]; rfl
      have hK40 := w.2.2.2.2.1 c.1
      have tr := BA.trip (v := s.f.getD 0 0) (v2 := s.f.getD 1 0) (v3 := x) b rfl hK40 ((hF0.2.2.2.2 c.1).1 (by omega)) (hF0.2.2.2.2 c.1).2 ((hx.2.2.2.2 c.1).2.2 (by omega))
      have e : ∀ q, ¬ q = 101 + 6 * s.K 40 → ¬ q = 4 + s.K 40 → ¬ q = 104 + 6 * s.K 40 → ¬ q = 105 + 6 * s.K 40 → trB s.K (s.f.getD 0 0) (s.f.getD 1 0) x q = s.K q := fun q h1 h2 h3 h4 => by rw [trB, up_ne h4, up_ne h3, up_ne h2, up_ne h1]
      refine ⟨?_, ?_, fun _ => ?_, fun _ l hl => ?_, fun z => absurd ⟨c.1, e3⟩ z, Or.inl o2.2⟩
      · have et : tc (mkS (trB s.K (s.f.getD 0 0) (s.f.getD 1 0) x) s.ln s.w (s.f ++ [x]) s.on s.sw s.sn s.sf (up s.se (s.K 40) s.sn)) = trB s.K (s.f.getD 0 0) (s.f.getD 1 0) x 40 + 1 := if_pos ⟨c.1, e3⟩
        rw [et]
        show BA (trB s.K (s.f.getD 0 0) (s.f.getD 1 0) x) (trB s.K (s.f.getD 0 0) (s.f.getD 1 0) x 40 + 1) s.sn
        rw [e 40 (by omega) (by omega) (by omega) (by omega)]
        exact tr
      · show wB (trB s.K (s.f.getD 0 0) (s.f.getD 1 0) x) s.w (s.f ++ [x]).length
        unfold wB at w ⊢
        rw [e 37 (by omega) (by omega) (by omega) (by omega), e 38 (by omega) (by omega) (by omega) (by omega), e 39 (by omega) (by omega) (by omega) (by omega), e 40 (by omega) (by omega) (by omega) (by omega), e3, c.1]
        refine ⟨by omega, by omega, by omega, by omega, by omega, fun _ => by decide⟩
      · show FX (trB s.K (s.f.getD 0 0) (s.f.getD 1 0) x) s.w (s.f ++ [x])
        unfold FX at hF ⊢
        rw [e 37 (by omega) (by omega) (by omega) (by omega), e 38 (by omega) (by omega) (by omega) (by omega)]
        exact hF
      · have : s.on.testBit l = true := hl
        rw [o2.1, Nat.zero_testBit] at this
        cases this
    · rw [if_neg c]
      have hu' : ¬ uw (mkS s.K s.ln s.w (s.f ++ [x]) s.on s.sw s.sn s.sf s.se) := fun z => c ⟨z.1, by have : (s.f ++ [x]).length = 3 := z.2; rw [List.length_append] at this; simp at this; exact this⟩
      refine ⟨by rw [tc_n hu']; exact b, ?_, fun _ => hF, fun z => absurd z hu', fun _ => o2, Or.inl o2.2⟩
      show wB s.K s.w (s.f ++ [x]).length
      rw [List.length_append]
      unfold wB at w ⊢
      refine ⟨w.1, w.2.1, w.2.2.1, w.2.2.2.1, w.2.2.2.2.1, fun _ => ?_⟩
      show s.f.length + 1 ≤ _
      omega
  · have hlen : s.f.length = 3 := by have := w.2.2.2.2.2 (by omega); rw [w9] at this; have : s.f.length ≤ 3 := this; omega
    have hu : uw s := ⟨w9, hlen⟩
    have o1 := o1 hu
    rw [tc_u hu] at b
    have hK40 := w.2.2.2.2.1 w9
    have key : ∀ (K' : Nat → Nat) (on' : Nat), BA K' (s.K 40 + 1) (s.sn + 1) → K' 37 = s.K 37 → K' 38 = s.K 38 → K' 39 = s.K 39 → K' 40 = s.K 40 → (∀ l, on'.testBit l = true → (K' (106 + 6 * s.K 40)).testBit l = true) → RA (mkS K' s.ln s.w s.f on' 0 (s.sn + 1) (fun j => if j = s.sn then (s.sw, v) else s.sf j) (up s.se (s.K 40) (s.sn + 1))) := by
      intro K' on' hb e37 e38 e39 e40 ho
      refine ⟨?_, ?_, fun _ => ?_, fun _ l hl => ?_, fun z => absurd hu z, Or.inl rfl⟩
      · have : tc (mkS K' s.ln s.w s.f on' 0 (s.sn + 1) (fun j => if j = s.sn then (s.sw, v) else s.sf j) (up s.se (s.K 40) (s.sn + 1))) = K' 40 + 1 := if_pos hu
        rw [this, e40]
        exact hb
      · show wB K' s.w s.f.length
        unfold wB at w ⊢
        rw [e37, e38, e39, e40]
        exact w
      · have hF := f (by omega)
        show FX K' s.w s.f
        unfold FX at hF ⊢
        rw [e37, e38]
        exact hF
      · show (K' (106 + 6 * K' 40)).testBit l = true
        rw [e40]
        exact ho l hl
    rcases o3 with z | z | z | z
    · exact absurd z sw0
    · have hv' : v < s.K 37 := by rw [if_pos z] at hv; exact hv
      have e : ∀ q, q < 102 → legK s.K (s.K 40) s.on v q = s.K q := fun q hq => by rw [legK, if_neg (by omega), if_neg (by omega), if_neg (by omega), if_neg (by omega), if_neg (by omega)]
      unfold stpN
      rw [if_pos z, if_pos z]
      refine key _ _ (BA.leg b hv') (e 37 (by omega)) (e 38 (by omega)) (e 39 (by omega)) (e 40 (by omega)) (fun l hl => ?_)
      rw [legK, if_neg (by omega), if_neg (by omega), if_neg (by omega), if_neg (by omega), if_neg (by omega)]
      exact o1 l hl
    · have hv' : v < s.K 39 := by rw [if_neg (by omega)] at hv; exact hv
      have e : ∀ q, q < 102 → onK s.K (s.K 40) v q = s.K q := fun q hq => by rw [onK, up_ne (by omega), up_ne (by omega)]
      unfold stpN
      rw [if_neg (by omega), if_pos z, if_neg (by omega)]
      refine key _ _ (BA.onoff b (Or.inl rfl) hv') (e 37 (by omega)) (e 38 (by omega)) (e 39 (by omega)) (e 40 (by omega)) (fun l hl => ?_)
      rw [onK, up_eq]
      exact xor_sub o1 hl
    · have hv' : v < s.K 39 := by rw [if_neg (by omega)] at hv; exact hv
      have e : ∀ q, q < 102 → offK s.K (s.K 40) v q = s.K q := fun q hq => by rw [offK, up_ne (by omega), up_ne (by omega)]
      unfold stpN
      rw [if_neg (by omega), if_neg (by omega), if_neg (by omega)]
      refine key _ _ (BA.onoff b (Or.inr rfl) hv') (e 37 (by omega)) (e 38 (by omega)) (e 39 (by omega)) (e 40 (by omega)) (fun l hl => ?_)
      rw [offK, up_eq]
      exact xor_sub o1 hl
  · have hlen : s.f.length = 3 := by have := w.2.2.2.2.2 (by omega); rw [w9] at this; have : s.f.length ≤ 3 := this; omega
    have hu : uw s := ⟨w9, hlen⟩
    exact ⟨b, w, f, o1, fun z => absurd hu z, Or.inr hk⟩
  · have w' := w.1
    have hu' : ¬ uw (endL s) := fun z => by cases z.1
    have hlen : s.f.length = wnt s.w := by have := w.2.2.2.2.2 w0; omega
    have hF := f w0
    have ho : s.on = 0 ∧ s.sw = 0 := by
      by_cases c : s.w = 9
      · exact ⟨(h9 c).2, (h9 c).1⟩
      · exact o2 (fun z => c z.1)
    refine ⟨?_, ?_, fun z => absurd rfl z, fun z => absurd z hu', fun _ => ho, Or.inl ho.2⟩
    · rw [tc_n hu']
      show BA (endK s) (endK s 40) s.sn
      unfold endK
      by_cases c5 : s.w = 5
      · rw [tc_n (fun z => by have := z.1; omega)] at b
        rw [if_pos c5, up_ne (by omega)]
        exact BA.desk b (hF.1 c5)
      · rw [if_neg c5]
        by_cases c6 : s.w = 6
        · rw [tc_n (fun z => by have := z.1; omega)] at b
          rw [if_pos c6, up_ne (by omega), up_ne (by omega), up_ne (by omega)]
          exact BA.place b (hF.2.1 c6).1 (hF.2.1 c6).2 (w.2.1 c6)
        · rw [if_neg c6]
          by_cases c7 : s.w = 7
          · rw [tc_n (fun z => by have := z.1; omega)] at b
            have := w.2.2.1 c7
            rw [if_pos c7, up_ne (by omega), up_ne (by omega), up_ne (by omega)]
            exact BA.truck b (hF.2.2.1 c7).1 (hF.2.2.1 c7).2 this
          · rw [if_neg c7]
            by_cases c8 : s.w = 8
            · rw [tc_n (fun z => by have := z.1; omega)] at b
              have := w.2.2.2.1 c8
              have hl3 : s.f.length = 3 := by rw [c8] at hlen; exact hlen
              rw [if_pos c8, up_ne (by omega), up_ne (by omega), up_ne (by omega), up_ne (by omega)]
              exact BA.load b (hF.2.2.2.1 c8).1 ((hF.2.2.2.1 c8).2.1 (by omega)) ((hF.2.2.2.1 c8).2.2 (by omega)) this
            · have c9 : s.w = 9 := by omega
              have := w.2.2.2.2.1 c9
              have hl3 : s.f.length = 3 := by rw [c9] at hlen; exact hlen
              rw [tc_u ⟨c9, hl3⟩] at b
              rw [if_neg c8, up_eq]
              exact BA.trips b (by omega)
    · exact ⟨Or.inl rfl, fun h => (by cases h), fun h => (by cases h), fun h => (by cases h), fun h => (by cases h), fun h => absurd rfl h⟩
