/-! the class: a token is a step: the numbers of a line -/
section TKB
variable {mem : pm_M} {T p d : Nat} {B : Nat → Nat} {s : RS}
theorem z01 {P : Prop} [Decidable P] : (if P then (1 : Int32) else 0) = 0 ∨ (if P then (1 : Int32) else 0) = 1 := by split <;> simp
theorem tkB (hI : RI B T s p) (hT : T ≤ 840) (hc : ctk mem B T p) (hR : rdR mem d s) (hD : rdD mem d s.K (tc s) s.sn s.sf s.se) (w0 : ¬ s.w = 0) (hl : s.f.length < wnt s.w) : Cl yX4_takeToken cX4_takeToken 1 (some .boolean) 5 104 [pR 10004904 0] mem (tkQ mem d s B T p) := by
  have hu : ¬ uw s := fun z => by rw [z.1, z.2] at hl; exact absurd hl (by decide)
  have hA := hI.1
  have hb := hA.1.1
  have hw5 := hA.2.1.1
  have hF := hA.2.2.1 w0
  have w3 := wnt_le s.w
  obtain ⟨h1, h2, h3, h4, h5⟩ := id hR
  obtain ⟨a1, a2, a3, a4, a5, a6⟩ := h5 w0
  rw [if_neg w0] at h3
  have hD0 := hD
  rw [tc_n hu] at hD
  obtain ⟨n, en⟩ : ∃ n, s.f.length = n := ⟨_, rfl⟩
  rcases hw5 with e | e | e | e | e | e
  · exact absurd e w0
  · have hf : fld s (tK B T p) (tV B T p) = numF 0 999 (tK B T p) (tV B T p) := by rw [fld, if_pos e]
    have h3' := h3
    rw [e] at h3'
    refine Cl.mono (tt_field h3 (by omega) a2 a1 hl w3 z01 (sp_field5 hc h3' a2 (by omega))) (fun r m h => ?_)
    obtain ⟨rfl, rfl⟩ := h
    by_cases ok : nmOk B T p 0 999
    · simp only [nmM, if_pos ok]
      exact fB_ok hR hD0 w0 hl (by rw [hf, numF_y ok]) (fun z => by omega) (by rw [fI, if_neg (fun z => by omega)])
    · simp only [nmM, if_neg ok]
      exact fB_bad w0 hl (by rw [hf, numF_z ok])
  · have hf : fld s (tK B T p) (tV B T p) = numF 0 99 (tK B T p) (tV B T p) := by rw [fld, if_neg (by omega), if_pos e]
    have h3' := h3
    rw [e] at h3'
    refine Cl.mono (tt_field h3 (by omega) a2 a1 hl w3 z01 (sp_field6 hc h3' a2 (by omega))) (fun r m h => ?_)
    obtain ⟨rfl, rfl⟩ := h
    by_cases ok : nmOk B T p 0 99
    · simp only [nmM, if_pos ok]
      exact fB_ok hR hD0 w0 hl (by rw [hf, numF_y ok]) (fun z => by omega) (by rw [fI, if_neg (fun z => by omega)])
    · simp only [nmM, if_neg ok]
      exact fB_bad w0 hl (by rw [hf, numF_z ok])
  · have hf : fld s (tK B T p) (tV B T p) = numF 0 (if s.f.length = 0 then 999 else 9999) (tK B T p) (tV B T p) := by
      rw [fld, if_neg (by omega), if_neg (by omega), if_pos e]
      split <;> rfl
    have h3' := h3
    rw [e] at h3'
    refine Cl.mono (tt_field h3 (by omega) a2 a1 hl w3 z01 (sp_field7 hc h3' a2 (by omega))) (fun r m h => ?_)
    obtain ⟨rfl, rfl⟩ := h
    by_cases ok : nmOk B T p 0 (if s.f.length = 0 then 999 else 9999)
    · simp only [nmM, if_pos ok]
      exact fB_ok hR hD0 w0 hl (by rw [hf, numF_y ok]) (fun z => by omega) (by rw [fI, if_neg (fun z => by omega)])
    · simp only [nmM, if_neg ok]
      exact fB_bad w0 hl (by rw [hf, numF_z ok])
  · have h3' := h3
    rw [e] at h3'
    have hl3 : s.f.length < 3 := by omega
    rcases (by omega : n = 0 ∨ n = 1 ∨ n = 2) with e0 | e0 | e0
    · have a2' := a2
      rw [en, e0] at a2'
      have hf : fld s (tK B T p) (tV B T p) = numF 1 99 (tK B T p) (tV B T p) := by rw [fld, if_neg (by omega), if_neg (by omega), if_neg (by omega), if_pos e, if_pos (by omega)]
      refine Cl.mono (tt_field h3 (by omega) a2 a1 hl w3 z01 (sp_field8 h3' z01 (sp_ldField0 hc a2'))) (fun r m h => ?_)
      obtain ⟨rfl, rfl⟩ := h
      by_cases ok : nmOk B T p 1 99
      · simp only [nmM, if_pos ok]
        have := fB_ok (v := nI (tV B T p)) hR hD0 w0 hl (by rw [hf, numF_y ok]) (fun z => by omega) (by rw [fI, if_neg (fun z => by omega)])
        rw [en, e0] at this
        exact this
      · simp only [nmM, if_neg ok]
        exact fB_bad w0 hl (by rw [hf, numF_z ok])
    · have a2' := a2
      rw [en, e0] at a2'
      have hf : fld s (tK B T p) (tV B T p) = tolF (s.K 37) (tK B T p) (tV B T p) := by rw [fld, if_neg (by omega), if_neg (by omega), if_neg (by omega), if_pos e, if_neg (by omega), if_pos (by omega)]
      refine Cl.mono (tt_field h3 (by omega) a2 a1 hl w3 z01 (sp_field8 h3' z01 (sp_ldField1 hc h1 hD.1.2.1 (by omega) a2'))) (fun r m h => ?_)
      obtain ⟨rfl, rfl⟩ := h
      by_cases ok : tlOk B T p (s.K 37)
      · simp only [tlM, if_pos ok]
        have := fB_ok (v := nI (tV B T p)) hR hD0 w0 hl (by rw [hf, tolF_y ok]) (fun z => by omega) (by rw [fI, if_neg (fun z => by omega)])
        rw [en, e0] at this
        exact this
      · simp only [tlM, if_neg ok]
        exact fB_bad w0 hl (by rw [hf, tolF_z ok])
    · have a2' := a2
      rw [en, e0] at a2'
      have t1 := a3 1 (by omega)
      rw [fI, if_neg (fun z => by omega)] at t1
      have hf1 := (hF.2.2.2.1 e).2.1 (by omega)
      have hf : fld s (tK B T p) (tV B T p) = if tK B T p = 2 ∧ tV B T p = s.f.getD 1 0 then .error 3 else tolF (s.K 37) (tK B T p) (tV B T p) := by rw [fld, if_neg (by omega), if_neg (by omega), if_neg (by omega), if_pos e, if_neg (by omega), if_neg (by omega)]
      refine Cl.mono (tt_field h3 (by omega) a2 a1 hl w3 z01 (sp_field8 h3' z01 (sp_ldField2 hc h1 hD.1.2.1 (by omega) a2' t1 (by omega)))) (fun r m h => ?_)
      obtain ⟨rfl, rfl⟩ := h
      by_cases ok : tlOk B T p (s.K 37)
      · by_cases q : tV B T p = s.f.getD 1 0
        · rw [if_neg (fun z => z.2 q), if_pos ⟨ok, q⟩]
          exact tk_bad (by rw [stp_fl w0 hl, hf, if_pos ⟨ok.1, q⟩]; rfl) kp_fr rfl
        · rw [if_pos ⟨ok, q⟩, if_neg (fun z => q z.2)]
          simp only [tlM, if_pos ok]
          have := fB_ok (v := nI (tV B T p)) hR hD0 w0 hl (by rw [hf, if_neg (fun z => q z.2), tolF_y ok]) (fun z => by omega) (by rw [fI, if_neg (fun z => by omega)])
          rw [en, e0] at this
          exact this
      · rw [if_neg (fun z => ok z.1), if_neg (fun z => ok z.1)]
        simp only [tlM, if_neg ok]
        refine fB_bad w0 hl ?_
        rw [hf]
        by_cases q : tK B T p = 2 ∧ tV B T p = s.f.getD 1 0
        · rw [if_pos q, if_pos q.1]
        · rw [if_neg q, tolF_z ok]
  · have h3' := h3
    rw [e] at h3'
    have hl3 : s.f.length < 3 := by omega
    rcases (by omega : n = 0 ∨ n = 1 ∨ n = 2) with e0 | e0 | e0
    · have a2' := a2
      rw [en, e0] at a2'
      have hf : fld s (tK B T p) (tV B T p) = tolF (s.K 38) (tK B T p) (tV B T p) := by rw [fld, if_neg (by omega), if_neg (by omega), if_neg (by omega), if_neg (by omega), if_pos (by omega)]
      refine Cl.mono (tt_field h3 (by omega) a2 a1 hl w3 z01 (sp_field9 h3' z01 (sp_tpField0 hc h1 hD.1.2.2.1 (by omega) a2'))) (fun r m h => ?_)
      obtain ⟨rfl, rfl⟩ := h
      by_cases ok : tlOk B T p (s.K 38)
      · simp only [tlM, if_pos ok]
        have := fB_ok (v := nI (tV B T p)) hR hD0 w0 hl (by rw [hf, tolF_y ok]) (fun z => by omega) (by rw [fI, if_neg (fun z => by omega)])
        rw [en, e0] at this
        exact this
      · simp only [tlM, if_neg ok]
        exact fB_bad w0 hl (by rw [hf, tolF_z ok])
    · have a2' := a2
      rw [en, e0] at a2'
      have hf : fld s (tK B T p) (tV B T p) = if tK B T p = 10 then .ok 0 else (numF 0 9999 (tK B T p) (tV B T p)).map (fun x => x + 1) := by rw [fld, if_neg (by omega), if_neg (by omega), if_neg (by omega), if_neg (by omega), if_neg (by omega), if_pos (by omega)]
      refine Cl.mono (tt_field h3 (by omega) a2 a1 hl w3 z01 (sp_field9 h3' z01 (sp_tpField1 hc a2'))) (fun r m h => ?_)
      obtain ⟨rfl, rfl⟩ := h
      by_cases k10 : tK B T p = 10
      · rw [if_pos (Or.inl k10), if_pos k10]
        have := fB_ok (v := -1) (x := 0) hR hD0 w0 hl (by rw [hf, if_pos k10]) (fun z => by omega) (by rw [fI, if_pos ⟨e, by omega⟩]; rfl)
        rw [en, e0] at this
        exact this
      · rw [if_neg k10]
        by_cases ok : nmOk B T p 0 9999
        · rw [if_pos (Or.inr ok)]
          simp only [nmM, if_pos ok]
          have := fB_ok (v := nI (tV B T p)) (x := tV B T p + 1) hR hD0 w0 hl (by rw [hf, if_neg k10, numF_y ok]; rfl) (fun z => by omega) (by rw [fI, if_pos ⟨e, by omega⟩]; exact (nI_subN (a := tV B T p + 1) (b := 1) (by omega)).symm)
          rw [en, e0] at this
          exact this
        · rw [if_neg (fun z => z.elim k10 ok)]
          simp only [nmM, if_neg ok]
          exact fB_bad w0 hl (by rw [hf, if_neg k10, numF_z ok]; rfl)
    · have a2' := a2
      rw [en, e0] at a2'
      have hK40 := hA.2.1.2.2.2.2.1 e
      have t0 := a3 0 (by omega)
      rw [fI, if_neg (fun z => by omega)] at t0
      have t1 := a3 1 (by omega)
      rw [fI, if_pos ⟨e, rfl⟩] at t1
      have hf : fld s (tK B T p) (tV B T p) = tolF (s.K 37) (tK B T p) (tV B T p) := by rw [fld, if_neg (by omega), if_neg (by omega), if_neg (by omega), if_neg (by omega), if_neg (by omega), if_neg (by omega)]
      refine Cl.mono (tt_field h3 (by omega) a2 a1 hl w3 z01 (sp_field9 h3' z01 (sp_tpField2 hc h1 hD.1.2.1 (by omega) a2' hD.1.2.2.2.2.1 hK40 hD.1.2.2.2.2.2))) (fun r m h => ?_)
      obtain ⟨rfl, rfl⟩ := h
      by_cases ok : tlOk B T p (s.K 37)
      · rw [if_pos ok, if_pos ok, t0, t1]
        have c3 : s.w = 9 ∧ s.f.length = 2 := ⟨e, by omega⟩
        have e3 : (s.f ++ [tV B T p]).length = 3 := by rw [List.length_append, c3.2]; rfl
        have ek : ∀ q, ¬ q = 101 + 6 * s.K 40 → ¬ q = 4 + s.K 40 → ¬ q = 104 + 6 * s.K 40 → ¬ q = 105 + 6 * s.K 40 → trB s.K (s.f.getD 0 0) (s.f.getD 1 0) (tV B T p) q = s.K q := fun q h1 h2 h3 h4 => by rw [trB, up_ne h4, up_ne h3, up_ne h2, up_ne h1]
        have e40 := ek 40 (by omega) (by omega) (by omega) (by omega)
        have ep : push s (tV B T p) = mkS (trB s.K (s.f.getD 0 0) (s.f.getD 1 0) (tV B T p)) s.ln s.w (s.f ++ [tV B T p]) s.on s.sw s.sn s.sf (up s.se (s.K 40) s.sn) := by rw [push, if_pos c3]
        have et : tc (mkS (trB s.K (s.f.getD 0 0) (s.f.getD 1 0) (tV B T p)) s.ln s.w (s.f ++ [tV B T p]) s.on s.sw s.sn s.sf (up s.se (s.K 40) s.sn)) = trB s.K (s.f.getD 0 0) (s.f.getD 1 0) (tV B T p) 40 + 1 := if_pos ⟨c3.1, e3⟩
        have hr := rdR_kp (v := nI (tV B T p)) (x := tV B T p) (sn' := s.sn) (K' := trB s.K (s.f.getD 0 0) (s.f.getD 1 0) (tV B T p)) (sf' := s.sf) (se' := up s.se (s.K 40) s.sn) hR w0 (by rw [fI, if_neg (fun z => by omega)]) (fun _ => by rw [e40, ek _ (by omega) (by omega) (by omega) (by omega)])
        rw [c3.2] at hr
        refine tk_ok (s' := mkS (trB s.K (s.f.getD 0 0) (s.f.getD 1 0) (tV B T p)) s.ln s.w (s.f ++ [tV B T p]) s.on s.sw s.sn s.sf (up s.se (s.K 40) s.sn)) (by rw [stp_fl w0 hl, hf, tolF_y ok, ← ep]; rfl) ?_ (rdR.eq hr rfl ?_ ?_) ?_
        · exact ((((kp_fr.uI (Or.inr ⟨by simp [dkT], rfl⟩)).uI (Or.inr ⟨by simp [dkT], rfl⟩)).uI (Or.inr ⟨by simp [dkT], rfl⟩)).uI (Or.inr ⟨by simp [dkT], rfl⟩)).uI (Or.inr ⟨by simp [dkT], rfl⟩)
        · funext z
          rw [pm_gIn (by simp), pm_gIn (by simp), pm_gIn (by simp), pm_gIn (by simp), pm_gIn (by simp)]
        · funext z
          rw [pm_gIn (by simp), pm_gIn (by simp), pm_gIn (by simp), pm_gIn (by simp), pm_gIn (by simp)]
        · rw [et, e40]
          have hD' : rdD (kpM mem 2 (nI (tV B T p))) d s.K (s.K 40) s.sn s.sf s.se := rdD.eq hD (fun t ht => by rw [dk_R t ht, dk_T t ht])
          show rdD _ d (trB s.K (s.f.getD 0 0) (s.f.getD 1 0) (tV B T p)) (s.K 40 + 1) s.sn s.sf (up s.se (s.K 40) s.sn)
          obtain ⟨⟨d1, d2, d3, d4, d5, d6⟩, dx, du, dw, dt, ds⟩ := hD'
          generalize kpM mem 2 (nI (tV B T p)) = M at *
          unfold rdD
          rw [ek 36 (by omega) (by omega) (by omega) (by omega), ek 37 (by omega) (by omega) (by omega) (by omega), ek 38 (by omega) (by omega) (by omega) (by omega), ek 39 (by omega) (by omega) (by omega) (by omega)]
          refine ⟨⟨?_, ?_, ?_, ?_, pm_gIe, ?_⟩, fun q hq => ?_, fun q hq => ?_, fun q hq => ?_, fun q hq => ?_, fun q hq => ?_⟩
          · rw [pm_gIn (by simp), pm_gIn (by simp), pm_gIn (by simp), pm_gIn (by simp), pm_gIn (by simp)]; exact d1
          · rw [pm_gIn (by simp), pm_gIn (by simp), pm_gIn (by simp), pm_gIn (by simp), pm_gIn (by simp)]; exact d2
          · rw [pm_gIn (by simp), pm_gIn (by simp), pm_gIn (by simp), pm_gIn (by simp), pm_gIn (by simp)]; exact d3
          · rw [pm_gIn (by simp), pm_gIn (by simp), pm_gIn (by simp), pm_gIn (by simp), pm_gIn (by simp)]; exact d4
          · rw [pm_gIn (by simp), pm_gIn (by simp), pm_gIn (by simp), pm_gIn (by simp), pm_gIn (by simp)]; exact d6
          · rw [ek _ (by omega) (by omega) (by omega) (by omega), ek _ (by omega) (by omega) (by omega) (by omega)]
            simp only [pm_gI, if_neg (show ¬ (20012006 = 10000900 ∧ d = d ∧ q = 4) by simp)]
            simpa using dx q hq
          · rw [ek _ (by omega) (by omega) (by omega) (by omega), ek _ (by omega) (by omega) (by omega) (by omega)]
            simpa [pm_gI] using du q hq
          · rw [ek _ (by omega) (by omega) (by omega) (by omega), ek _ (by omega) (by omega) (by omega) (by omega), ek _ (by omega) (by omega) (by omega) (by omega)]
            simpa [pm_gI] using dw q hq
          · by_cases z : q = s.K 40
            · subst z
              rw [trB, up_ne (by omega), up_ne (by omega), up_ne (by omega), up_eq, up_ne (by omega), up_ne (by omega), up_eq, up_ne (by omega), up_eq, up_eq]
              simp [pm_gI]
            · rw [ek _ (by omega) (by omega) (by omega) (by omega), ek _ (by omega) (by omega) (by omega) (by omega), ek _ (by omega) (by omega) (by omega) (by omega), up_ne z]
              simpa [pm_gI, z] using dt q (by omega)
          · simpa [pm_gI] using ds q hq
      · rw [if_neg ok, if_neg ok]
        exact fB_bad w0 hl (by rw [hf, tolF_z ok])
end TKB
