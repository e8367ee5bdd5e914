/-! places of the text: steps take four bytes -/
section RQS
variable {B : Nat → Nat} {T : Nat}
def rE (B : Nat → Nat) (T p : Nat) : Prop := ¬ (p < T ∧ (isL (B p) || isD (B p)) = true)
theorem wk_len {q n : Nat} (h : 11 ≤ wk B q n) : 2 ≤ n := by
  unfold wk at h
  repeat' split at h
  all_goals omega
theorem tK_wd {p : Nat} (h : 11 ≤ tK B T p) : tQ B T p + 2 ≤ tN B T p ∧ rE B T (tN B T p) := by
  have hq : ¬ min T 800 ≤ tQ B T p := fun z => by rw [tK, if_pos z] at h; omega
  have h59 : ¬ B (tQ B T p) = 59 := fun z => by rw [tK, if_neg hq, if_pos z] at h; omega
  have hr : ¬ rn B T (tQ B T p) = tQ B T p := fun z => by rw [tK, if_neg hq, if_neg h59, if_pos z] at h; omega
  rw [tK, if_neg hq, if_neg h59, if_neg hr] at h
  rw [tN, if_neg h59]
  refine ⟨?_, rn_stop (n := T - tQ B T p) (by omega)⟩
  split at h
  · have := wk_len h; omega
  · split at h <;> omega
theorem tK_num {p : Nat} (h : tK B T p = 2) (hp : rE B T p) : ¬ tQ B T p = p := by
  obtain ⟨h1, h2, h3, -⟩ := tK2 h
  intro e
  rw [e] at h3
  exact h3 (rn_e hp)
def RQ (B : Nat → Nat) (T : Nat) (s : RS) (p : Nat) : Prop := p ≤ T ∧ s.ln ≤ p ∧ 4 * s.sn ≤ p ∧ s.sn ≤ 200 ∧ (¬ s.sw = 0 → 4 * s.sn + 2 ≤ p ∧ rE B T p ∧ uw s)
theorem push_f {s : RS} {x : Nat} : (push s x).ln = s.ln ∧ (push s x).sn = s.sn ∧ (push s x).sw = s.sw ∧ (push s x).w = s.w := by
  unfold push
  split <;> exact ⟨rfl, rfl, rfl, rfl⟩
theorem RQ_n {s s' : RS} {p : Nat} (h : RQ B T s p) (hk : ¬ tK B T p = 0) (hs : stp s (tK B T p) (tV B T p) = .ok s') (hw : ¬ s.sw = 0) (h2 : tK B T p = 2) : s.sn < 200 := by
  obtain ⟨a, b, c, d, e⟩ := h
  have hb := tN_bd a (stp_k hs)
  have := tK_num h2 (e hw).2.1
  have := (e hw).1
  omega
theorem RQ_k {s s' : RS} {p : Nat} (h : RQ B T s p) (hA : RA s) (hk : ¬ tK B T p = 0) (hs : stp s (tK B T p) (tV B T p) = .ok s') : RQ B T s' (tN B T p) := by
  have hsn := RQ_n h hk hs
  obtain ⟨a, b, c, d, e⟩ := h
  have hb := tN_bd a (stp_k hs)
  rcases stp_cs hs with ⟨w0, k', hk, rfl⟩ | ⟨w0, hl, x, hx, rfl⟩ | ⟨w9, hl, sw0, k2, hv, h12, h13, rfl⟩ | ⟨w9, hl, sw0, hk, rfl⟩ | ⟨w0, hl, h9, k3, rfl⟩
  · exact ⟨hb.2.1, by show s.ln ≤ _; omega, by show 4 * s.sn ≤ _; omega, d, fun z => absurd rfl z⟩
  · obtain ⟨p1, p2, p3, -⟩ := push_f (s := s) (x := x)
    refine ⟨hb.2.1, by omega, by omega, by omega, fun z => ?_⟩
    rw [p3] at z
    obtain ⟨-, -, u1, u2⟩ := e z
    rw [u1, u2] at hl
    exact absurd hl (by decide)
  · have := hsn sw0 k2
    have := tK_num k2 (e sw0).2.1
    have := (e sw0).1
    exact ⟨hb.2.1, by show s.ln ≤ _; omega, by show 4 * (s.sn + 1) ≤ _; omega, by show s.sn + 1 ≤ _; omega, fun z => absurd rfl z⟩
  · have hwd := tK_wd (B := B) (T := T) (p := p) (by omega)
    have hlen : s.f.length = 3 := by have := hA.2.1.2.2.2.2.2 (by omega); rw [w9] at this; have : s.f.length ≤ 3 := this; omega
    exact ⟨hb.2.1, by show s.ln ≤ _; omega, by show 4 * s.sn ≤ _; omega, d, fun z => ⟨by show 4 * s.sn + 2 ≤ _; omega, hwd.2, w9, hlen⟩⟩
  · refine ⟨hb.2.1, by show s.ln + 1 ≤ _; omega, by show 4 * s.sn ≤ _; omega, d, fun z => ?_⟩
    have z' : ¬ s.sw = 0 := z
    obtain ⟨-, -, u1, u2⟩ := e z'
    exact absurd (h9 u1).1 z'
end RQS
