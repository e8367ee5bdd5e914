/-! the class: a token is a step: lines begun, numbers -/
def tkQ (m0 : pm_M) (d : Nat) (s : RS) (B : Nat → Nat) (T p : Nat) : Option pm_v → pm_M → Prop := fun r m => pm_fr (sRT d) m0 m ∧ match stp s (tK B T p) (tV B T p) with
  | .ok s' => r = some (pI 1) ∧ rdR m d s' ∧ rdD m d s'.K (tc s') s'.sn s'.sf s'.se
  | .error e => r = some (pI 0) ∧ m.2.2 = m0.2.2 ∧ m.1 10004904 0 3 = nI e ∧ m.1 10004904 0 4 = nI (tS B T p)
section TKA
variable {mem : pm_M} {T p d n : Nat} {B : Nat → Nat} {s s' : RS} {v : Int32}
theorem tk_ok {m : pm_M} (h : stp s (tK B T p) (tV B T p) = .ok s') (hf : pm_fr (sRT d) mem m) (h1 : rdR m d s') (h2 : rdD m d s'.K (tc s') s'.sn s'.sf s'.se) : tkQ mem d s B T p (some (pI 1)) m := by
  refine ⟨hf, ?_⟩
  rw [h]
  exact ⟨rfl, h1, h2⟩
theorem tk_bad {m : pm_M} {e : Nat} (h : stp s (tK B T p) (tV B T p) = .error e) (hf : pm_fr (sRT d) mem m) (hm : m.2.2 = mem.2.2) : tkQ mem d s B T p (some (pI 0)) (rfM m e (tS B T p)) := by
  refine ⟨(hf.uI (Or.inl ⟨Or.inl rfl, rfl⟩)).uI (Or.inl ⟨Or.inl rfl, rfl⟩), ?_⟩
  rw [h]
  exact ⟨rfl, hm, by rw [pm_gIn (by simp), pm_gIe], pm_gIe⟩
theorem kp_fr : pm_fr (sRT d) mem (kpM mem n v) := (pm_fr.rf.uI (Or.inl ⟨Or.inr rfl, rfl⟩)).uI (Or.inl ⟨Or.inl rfl, rfl⟩)
theorem rdR_kp (h : rdR mem d s) (hw : ¬ s.w = 0) {x sn' : Nat} {K' se' : Nat → Nat} {sf' : Nat → Nat × Nat} (hx : v = fI s.w s.f.length x) (hK : s.w = 9 → K' (106 + 6 * K' 40) = s.K (106 + 6 * s.K 40)) : rdR (kpM mem s.f.length v) d (mkS K' s.ln s.w (s.f ++ [x]) s.on s.sw sn' sf' se') := by
  obtain ⟨h1, h2, h3, h4, h5⟩ := h
  obtain ⟨a1, a2, a3, a4, a5, a6⟩ := h5 hw
  refine ⟨h1, ?_, ?_, ?_, fun _ => ⟨?_, ?_, fun i hi => ?_, ?_, ?_, fun h9 => ?_⟩⟩
  · rw [pm_gIn (by simp), pm_gIn (by simp)]; exact h2
  · rw [pm_gIn (by simp), pm_gIn (by simp)]; exact h3
  · rw [pm_gIn (by simp), pm_gIn (by simp)]; exact h4
  · rw [pm_gIn (by simp), pm_gIn (by simp)]; exact a1
  · rw [pm_gIe]
    show _ = nI (s.f ++ [x]).length
    rw [List.length_append]
    rfl
  · have hi' : i < (s.f ++ [x]).length := hi
    rw [List.length_append] at hi'
    have hi2 : i < s.f.length + 1 := hi'
    rw [pm_gIn (by simp)]
    show _ = fI s.w i ((s.f ++ [x]).getD i 0)
    by_cases z : i = s.f.length
    · rw [z, pm_gIe, hx]
      congr 1
      simp
    · rw [pm_gIn (fun y => z y.2.2), a3 i (by omega)]
      congr 1
      rw [List.getD_eq_getElem?_getD, List.getD_eq_getElem?_getD, List.getElem?_append_left (by omega)]
  · rw [pm_gIn (by simp), pm_gIn (by simp)]; exact a4
  · rw [pm_gIn (by simp), pm_gIn (by simp)]; exact a5
  · rw [pm_gIn (by simp), pm_gIn (by simp)]
    show _ = nI (K' (106 + 6 * K' 40))
    rw [hK h9]
    exact a6 h9
theorem tkA (hI : RI B T s p) (hT : T ≤ 840) (hc : ctk mem B T p) (hR : rdR mem d s) (hD : rdD mem d s.K (tc s) s.sn s.sf s.se) (w0 : s.w = 0) : Cl yX4_takeToken cX4_takeToken 1 (some .boolean) 5 104 [pR 10004904 0] mem (tkQ mem d s B T p) := by
  have hu : ¬ uw s := fun z => by have := z.1; omega
  have hA := hI.1
  have hq := hI.2.2
  have hb := hA.1.1
  have hln : s.ln < 1000 := by have := hq.1; have := hq.2.1; omega
  rw [tc_n hu] at hD
  obtain ⟨h1, h2, h3, h4, h5⟩ := hR
  refine Cl.mono (tt_begin (by rw [h3, if_pos w0]) (by split <;> simp) (sp_X4_beginLine hc h1 h2 hln hD.1.2.1 hD.1.2.2.1 hD.1.2.2.2.1 hD.1.2.2.2.2.1 ⟨hb.1, hb.2.1, hb.2.2.1, hb.2.2.2.1⟩)) (fun r m h => ?_)
  obtain ⟨rfl, rfl⟩ := h
  by_cases e : bgE s (tK B T p) = 0
  · rw [if_pos e, if_pos e]
    have hu' : ¬ uw (begL s (tK B T p)) := fun z => by have := z.2; cases this
    have hk0 : ¬ tK B T p = 0 := fun z => by
      rw [z] at e
      unfold bgE at e
      repeat' split at e
      all_goals omega
    have h40 : tK B T p = 9 → s.K 40 < 16 := fun z => by
      rw [z] at e
      unfold bgE at e
      repeat' split at e
      all_goals omega
    refine tk_ok (by rw [stp_b w0, if_pos e]) ?_ ⟨h1, ?_, ?_, ?_, fun _ => ⟨?_, ?_, fun i hi => absurd hi (Nat.not_lt_zero _), ?_, ?_, fun h9 => ?_⟩⟩ ?_
    · exact (((((pm_fr.rf.uI (Or.inl ⟨Or.inl rfl, rfl⟩)).uI (Or.inl ⟨Or.inl rfl, rfl⟩)).uI (Or.inl ⟨Or.inl rfl, rfl⟩)).uI (Or.inl ⟨Or.inl rfl, rfl⟩)).uI (Or.inl ⟨Or.inl rfl, rfl⟩)).uI (Or.inl ⟨Or.inl rfl, rfl⟩)
    · rw [pm_gIn (by simp), pm_gIn (by simp), pm_gIn (by simp), pm_gIn (by simp), pm_gIn (by simp), pm_gIn (by simp)]; exact h2
    · rw [pm_gIn (by simp), pm_gIn (by simp), pm_gIn (by simp), pm_gIn (by simp), pm_gIn (by simp), pm_gIe]
      show _ = if tK B T p = 0 then _ else _
      rw [if_neg hk0]
      rfl
    · rw [pm_gIn (by simp), pm_gIn (by simp), pm_gIn (by simp), pm_gIn (by simp), pm_gIn (by simp), pm_gIn (by simp)]; exact h4
    · rw [pm_gIn (by simp), pm_gIn (by simp), pm_gIn (by simp), pm_gIn (by simp), pm_gIe]; rfl
    · rw [pm_gIn (by simp), pm_gIn (by simp), pm_gIn (by simp), pm_gIe]; rfl
    · rw [pm_gIn (by simp), pm_gIn (by simp), pm_gIe]; rfl
    · rw [pm_gIn (by simp), pm_gIe]; rfl
    · rw [pm_gIe]
      show _ = nI (s.K (106 + 6 * s.K 40))
      have := hA.1.2.2.2.2.2.2.1 (s.K 40) (by rw [tc_n hu]; exact Nat.le_refl _) (h40 h9)
      rw [this.2.2]
      rfl
    · rw [tc_n hu']
      refine rdD.eq hD (fun t ht => ?_)
      rw [dk_R t ht, dk_R t ht, dk_R t ht, dk_R t ht, dk_R t ht, dk_R t ht]
  · rw [if_neg e, if_neg e]
    exact tk_bad (by rw [stp_b w0, if_neg e]) pm_fr.rf rfl
theorem stp_fl {k v : Nat} (hw : ¬ s.w = 0) (hl : s.f.length < wnt s.w) : stp s k v = (fld s k v).map (push s) := by rw [stp, if_neg hw, if_pos hl]
theorem numF_y {lo hi : Nat} (h : nmOk B T p lo hi) : numF lo hi (tK B T p) (tV B T p) = .ok (tV B T p) := by rw [numF, if_pos h.1, if_pos h.2]
theorem numF_z {lo hi : Nat} (h : ¬ nmOk B T p lo hi) : numF lo hi (tK B T p) (tV B T p) = .error (if tK B T p = 2 then 2 else 1) := by
  unfold numF
  by_cases z : tK B T p = 2
  · rw [if_pos z, if_neg (fun y => h ⟨z, y⟩), if_pos z]
  · rw [if_neg z, if_neg z]
theorem tolF_y {c : Nat} (h : tlOk B T p c) : tolF c (tK B T p) (tV B T p) = .ok (tV B T p) := by rw [tolF, if_pos h.1, if_pos h.2]
theorem tolF_z {c : Nat} (h : ¬ tlOk B T p c) : tolF c (tK B T p) (tV B T p) = .error (if tK B T p = 2 then 3 else 1) := by
  unfold tolF
  by_cases z : tK B T p = 2
  · rw [if_pos z, if_neg (fun y => h ⟨z, y⟩), if_pos z]
  · rw [if_neg z, if_neg z]
theorem fB_ok (hR : rdR mem d s) (hD : rdD mem d s.K (tc s) s.sn s.sf s.se) (hw : ¬ s.w = 0) (hl : s.f.length < wnt s.w) {x : Nat} (hf : fld s (tK B T p) (tV B T p) = .ok x) (h3 : ¬ (s.w = 9 ∧ s.f.length = 2)) (hx : v = fI s.w s.f.length x) : tkQ mem d s B T p (some (pI 1)) (kpM mem s.f.length v) := by
  have hu : ¬ uw s := fun z => by rw [z.1, z.2] at hl; exact absurd hl (by decide)
  have hu' : ¬ uw (mkS s.K s.ln s.w (s.f ++ [x]) s.on s.sw s.sn s.sf s.se) := fun z => h3 ⟨z.1, by have : (s.f ++ [x]).length = 3 := z.2; rw [List.length_append] at this; simp at this; exact this⟩
  rw [tc_n hu] at hD
  have e : push s x = mkS s.K s.ln s.w (s.f ++ [x]) s.on s.sw s.sn s.sf s.se := by rw [push, if_neg h3]
  refine tk_ok (s' := mkS s.K s.ln s.w (s.f ++ [x]) s.on s.sw s.sn s.sf s.se) (by rw [stp_fl hw hl, hf, ← e]; rfl) kp_fr (rdR_kp hR hw hx (fun _ => rfl)) ?_
  rw [tc_n hu']
  exact rdD.eq hD (fun t ht => by rw [dk_R t ht, dk_T t ht])
theorem fB_bad (hw : ¬ s.w = 0) (hl : s.f.length < wnt s.w) {e : Nat} (hf : fld s (tK B T p) (tV B T p) = .error e) : tkQ mem d s B T p (some (pI 0)) (rfM mem e (tS B T p)) :=
  tk_bad (by rw [stp_fl hw hl, hf]; rfl) pm_fr.rf rfl
end TKA
