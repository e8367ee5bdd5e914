/-! the replay is kept -/
def RC (K : Nat → Nat) (sf : Nat → Nat × Nat) (se : Nat → Nat) (n sn : Nat) : Prop :=
  (∀ k, jx k → rA sf se (z0 K) n k = K k) ∧ (∀ t, t < n → fs se t ≤ se t ∧ se t ≤ sn) ∧ fs se n = sn ∧ ∀ t, t < n → ∀ i, fs se t + i < se t → okS K (sf (fs se t + i)) (oT sf (fs se t) i)
section RPK
variable {K K' : Nat → Nat} {sf : Nat → Nat × Nat} {se : Nat → Nat} {n sn : Nat}
theorem RC.sw (h : RC K sf se n sn) (hb : BA K n sn) : sW (K 37) sf se (z0 K) n := by
  refine ⟨hb.1.2.2.2.2.2, hb.1.1, fun t ht => ⟨?_, fun i hi => ?_⟩⟩
  · have := hb.1.2.2.2.2.2
    rw [z0_n (by unfold jx; omega)]
    exact (hb.2.2.2.2.1 t ht).2.2.2.1
  · have := h.2.2.2 t ht i (by omega)
    have := hb.1
    unfold okS at *
    omega
theorem RC.mono (h : RC K sf se n sn) (hb : BA K n sn) (h1 : ∀ k, jx k → K' k = K k) (h2 : ∀ p, p < K 37 → K' (41 + p) = K (41 + p) ∧ K' (53 + p) = K (53 + p)) (h3 : ∀ t, t < n → K' (104 + 6 * t) = K (104 + 6 * t)) (h4 : K 37 ≤ K' 37) (h5 : K 39 ≤ K' 39) : RC K' sf se n sn := by
  have hA : Ag (K 37) n (z0 K) (z0 K') := by
    have := hb.1
    refine ⟨fun k hk => by rw [z0_j hk, z0_j hk], fun p hp => ?_, fun t ht => ?_⟩
    · rw [z0_n (by unfold jx; omega), z0_n (by unfold jx; omega), z0_n (by unfold jx; omega), z0_n (by unfold jx; omega), (h2 p hp).1, (h2 p hp).2]
      exact ⟨rfl, rfl⟩
    · rw [z0_n (by unfold jx; omega), z0_n (by unfold jx; omega), h3 t ht]
  have hA' := rA_ag (sf := sf) (se := se) hA (Nat.le_refl n) (h.sw hb)
  refine ⟨fun k hk => ?_, h.2.1, h.2.2.1, fun t ht i hi => ?_⟩
  · rw [← hA'.1 k hk, h1 k hk]; exact h.1 k hk
  · have := h.2.2.2 t ht i hi
    unfold okS at *
    rcases this with z | z | z
    · exact Or.inl ⟨z.1, by omega⟩
    · exact Or.inr (Or.inl ⟨z.1, by omega, z.2.2⟩)
    · exact Or.inr (Or.inr ⟨z.1, by omega, z.2.2⟩)
theorem fs_up {m t : Nat} (ht : t ≤ n) : fs (up se n m) t = fs se t := by
  unfold fs
  split
  · rfl
  · rw [up_ne (by omega)]
theorem RC.trip (h : RC K sf se n sn) (hb : BA K n sn) (hn : K 40 = n) (hn16 : n < 16) {a b c : Nat} : RC (trB K a b c) sf (up se n sn) (n + 1) sn := by
  have e : ∀ q, ¬ q = 101 + 6 * n → ¬ q = 4 + n → ¬ q = 104 + 6 * n → ¬ q = 105 + 6 * n → trB K a b c q = K q := fun q h1 h2 h3 h4 => by rw [trB, hn, up_ne h4, up_ne h3, up_ne h2, up_ne h1]
  have hb1 := hb.1
  have hA : Ag (K 37) n (z0 K) (z0 (trB K a b c)) := by
    refine ⟨fun k hk => by rw [z0_j hk, z0_j hk], fun p hp => ?_, fun t ht => ?_⟩
    · rw [z0_n (by unfold jx; omega), z0_n (by unfold jx; omega), z0_n (by unfold jx; omega), z0_n (by unfold jx; omega), e _ (by omega) (by omega) (by omega) (by omega), e _ (by omega) (by omega) (by omega) (by omega)]
      exact ⟨rfl, rfl⟩
    · rw [z0_n (by unfold jx; omega), z0_n (by unfold jx; omega), e _ (by omega) (by omega) (by omega) (by omega)]
  have hW := h.sw hb
  have hA' := rA_ag (sf := sf) (se := se) hA (Nat.le_refl n) hW
  have hW' : sW (K 37) sf se (z0 (trB K a b c)) n := ⟨hW.1, hW.2.1, fun t ht => ⟨by rw [← hA.2.2 t ht]; exact (hW.2.2 t ht).1, (hW.2.2 t ht).2⟩⟩
  have hse : ∀ H, rA sf (up se n sn) H n = rA sf se H n := fun H => rA_sf (m := sn) (fun t ht => ⟨fs_up (by omega), up_ne (by omega), by rw [up_ne (by omega)]; exact (h.2.1 t ht).2⟩) (fun _ _ => rfl)
  refine ⟨fun k hk => ?_, fun t ht => ?_, ?_, fun t ht i hi => ?_⟩
  · rw [rA, up_eq, fs_up (Nat.le_refl n), h.2.2.1, Nat.sub_self, rT, hse]
    by_cases z : k = 105 + 6 * n
    · rw [z, up_eq, rA_nj (by unfold jx; omega) hW', z0_n (by unfold jx; omega)]
      rw [trB, hn, up_ne (by omega), up_eq, up_eq]
    · rw [up_ne z, ← hA'.1 k hk, h.1 k hk, e k (by unfold jx at hk; omega) (by unfold jx at hk; omega) (by unfold jx at hk; omega) z]
  · rw [fs_up (by omega)]
    by_cases z : t = n
    · rw [z, up_eq, h.2.2.1]; exact ⟨Nat.le_refl _, Nat.le_refl _⟩
    · rw [up_ne z]; exact h.2.1 t (by omega)
  · rw [fs, if_neg (by omega), show n + 1 - 1 = n by omega, up_eq]
  · rw [fs_up (by omega)] at hi ⊢
    by_cases z : t = n
    · rw [z, up_eq, h.2.2.1] at hi; omega
    · rw [up_ne z] at hi
      have := h.2.2.2 t (by omega) i hi
      unfold okS at *
      rw [e 37 (by omega) (by omega) (by omega) (by omega), e 39 (by omega) (by omega) (by omega) (by omega)]
      exact this
def sfU (sf : Nat → Nat × Nat) (sn : Nat) (q : Nat × Nat) : Nat → Nat × Nat := fun j => if j = sn then q else sf j
theorem RC.step (h : RC K sf se (n + 1) sn) (hb : BA K (n + 1) sn) {q : Nat × Nat} (hq : okS K q (oT sf (fs se n) (se n - fs se n))) : RC (on1 K n (oT sf (fs se n) (se n - fs se n)) q) (sfU sf sn q) (up se n (sn + 1)) (n + 1) (sn + 1) ∧ (∀ t, t < n → oT (sfU sf sn q) (fs (up se n (sn + 1)) t) (up se n (sn + 1) t - fs (up se n (sn + 1)) t) = oT sf (fs se t) (se t - fs se t)) ∧ oT (sfU sf sn q) (fs (up se n (sn + 1)) n) (up se n (sn + 1) n - fs (up se n (sn + 1)) n) = (if q.1 = 11 then oT sf (fs se n) (se n - fs se n) else oT sf (fs se n) (se n - fs se n) ^^^ 2 ^ q.2) := by
  have hb1 := hb.1
  have hpl := (hb.2.2.2.2.1 n (by omega)).2.2.2.2
  have hq1 : q.1 = 11 → q.2 < K 37 := fun z => by unfold okS at hq; omega
  have hq2 : ¬ q.1 = 11 → q.2 < 16 := fun z => by unfold okS at hq; omega
  have hW := h.sw hb
  have hen : se n = sn := by have := h.2.2.1; rw [fs, if_neg (by omega), show n + 1 - 1 = n by omega] at this; exact this
  have hfl := (h.2.1 n (by omega)).1
  have hz : z0 (on1 K n (oT sf (fs se n) (se n - fs se n)) q) = z0 K := by
    funext k
    by_cases c : jx k
    · rw [z0_j c, z0_j c]
    · rw [z0_n c, z0_n c, on1_nj (by omega) (by omega) (fun z => by have := hq1 z; omega) hq2 c]
  have hsf : ∀ i, i < sn → sfU sf sn q i = sf i := fun i hi => by rw [sfU, if_neg (by omega)]
  have eA : rA (sfU sf sn q) (up se n (sn + 1)) (z0 K) n = rA sf se (z0 K) n := (rA_sf (m := sn) (fun t ht => ⟨(fs_up (by omega)).symm, (up_ne (by omega)).symm, (h.2.1 t (by omega)).2⟩) (fun i hi => (hsf i hi).symm)).symm
  have em : up se n (sn + 1) n - fs (up se n (sn + 1)) n = (sn - fs se n) + 1 := by rw [up_eq, fs_up (Nat.le_refl n)]; omega
  have eo : oT (sfU sf sn q) (fs se n) (sn - fs se n) = oT sf (fs se n) (sn - fs se n) := oT_sf (fun i hi => hsf _ (by omega))
  have eq : sfU sf sn q (fs se n + (sn - fs se n)) = q := by rw [show fs se n + (sn - fs se n) = sn by omega, sfU, if_pos rfl]
  have hold := h.1
  have eX : rA sf se (z0 K) (n + 1) = rT sf n (fs se n) (up (rA sf se (z0 K) n) (105 + 6 * n) (rA sf se (z0 K) n (104 + 6 * n))) (sn - fs se n) := by rw [rA, hen]
  have hAg : Ag (K 37) 0 (rA sf se (z0 K) (n + 1)) K := by
    refine ⟨hold, fun p hp => ?_, fun t ht => absurd ht (Nat.not_lt_zero _)⟩
    rw [rA_nj (by unfold jx; omega) hW, rA_nj (by unfold jx; omega) hW, z0_n (by unfold jx; omega), z0_n (by unfold jx; omega)]
    exact ⟨rfl, rfl⟩
  have hold5 : rA sf se (z0 K) (n + 1) (105 + 6 * n) < K 37 := by rw [hold _ (by unfold jx; omega)]; exact hpl
  refine ⟨⟨fun k hk => ?_, fun t ht => ?_, ?_, fun t ht i hi => ?_⟩, fun t ht => ?_, ?_⟩
  · rw [hz, rA, eA, em, fs_up (Nat.le_refl n), rT, eo, eq, rT_sf (sf := sfU sf sn q) (sf' := sf) (fun i hi => hsf _ (by omega)), ← eX, hen]
    exact (on1_ag hAg (by omega) hb1.1 hold5 hq1 hq2).1 k hk
  · rw [fs_up (by omega)]
    by_cases z : t = n
    · rw [z, up_eq]; omega
    · rw [up_ne z]; have := h.2.1 t ht; omega
  · rw [fs, if_neg (by omega), show n + 1 - 1 = n by omega, up_eq]
  · rw [fs_up (by omega)] at hi ⊢
    have e37 : on1 K n (oT sf (fs se n) (se n - fs se n)) q 37 = K 37 := on1_nj (by omega) (by omega) (fun z => by have := hq1 z; omega) hq2 (by unfold jx; omega)
    have e39 : on1 K n (oT sf (fs se n) (se n - fs se n)) q 39 = K 39 := on1_nj (by omega) (by omega) (fun z => by have := hq1 z; omega) hq2 (by unfold jx; omega)
    have key : okS K (sfU sf sn q (fs se t + i)) (oT (sfU sf sn q) (fs se t) i) := by
      by_cases c : fs se t + i < sn
      · rw [hsf _ c, oT_sf (sf := sfU sf sn q) (sf' := sf) (fun j hj => hsf _ (by omega))]
        refine h.2.2.2 t ht i ?_
        by_cases z : t = n
        · rw [z, hen]; rw [z] at c; exact c
        · rw [up_ne z] at hi; exact hi
      · have z : t = n := by
          by_cases z : t = n
          · exact z
          · rw [up_ne z] at hi; have := (h.2.1 t ht).2; omega
        subst z
        rw [up_eq] at hi
        have ei : i = sn - fs se t := by omega
        rw [ei, eq, eo, ← hen]
        exact hq
    unfold okS at *
    rw [e37, e39]
    exact key
  · rw [fs_up (by omega), up_ne (by omega)]
    exact oT_sf (fun i hi => hsf _ (by have := (h.2.1 t (by omega)).2; omega))
  · rw [em, fs_up (Nat.le_refl n), oT, eo, eq, hen]
end RPK
def RP (s : RS) : Prop := RC s.K s.sf s.se (tc s) s.sn ∧ (∀ t, t < s.K 40 → oT s.sf (fs s.se t) (s.se t - fs s.se t) = 0) ∧ (uw s → oT s.sf (fs s.se (s.K 40)) (s.se (s.K 40) - fs s.se (s.K 40)) = s.on)
theorem RP_0 : RP s00 := by
  refine ⟨⟨fun k hk => ?_, fun t ht => ?_, rfl, fun t ht => ?_⟩, fun t ht => ?_, fun z => by cases z.1⟩
  · show z0 K0 k = K0 k
    rw [z0_j hk, K0, if_neg (by unfold jx at hk; omega)]
  · exact absurd ht (Nat.not_lt_zero t)
  · exact absurd ht (Nat.not_lt_zero t)
  · exact absurd ht (Nat.not_lt_zero t)
theorem RP_k {s s' : RS} {k v : Nat} (hP : RP s) (hA : RA s) (h : stp s k v = .ok s') : RP s' := by
  obtain ⟨r, o1, o2⟩ := hP
  obtain ⟨b, w, f, o3, o4, o5⟩ := hA
  rcases stp_cs h with ⟨w0, k', hk, rfl⟩ | ⟨w0, hl, x, hx, rfl⟩ | ⟨w9, hl, sw0, k2, hv, h12, h13, rfl⟩ | ⟨w9, hl, sw0, hk, rfl⟩ | ⟨w0, hl, h9, k3, rfl⟩
  · have hu : ¬ uw s := fun z => by have := z.1; omega
    rw [tc_n hu] at r
    have hu' : ¬ uw (begL s k') := fun z => by have := z.2; cases this
    refine ⟨by rw [tc_n hu']; exact r, o1, fun z => absurd z hu'⟩
  · have w3 := wnt_le s.w
    have hu : ¬ uw s := fun z => by rw [z.1, z.2] at hl; exact absurd hl (by decide)
    rw [tc_n hu] at r b
    have o4 := o4 hu
    unfold push
    by_cases c : s.w = 9 ∧ s.f.length = 2
    · rw [if_pos c]
      have e3 : (s.f ++ [x]).length = 3 := by rw [List.length_append, c.2]; rfl
      have hK40 := w.2.2.2.2.1 c.1
      have e40 : trB s.K (s.f.getD 0 0) (s.f.getD 1 0) x 40 = s.K 40 := by rw [trB, up_ne (by omega), up_ne (by omega), up_ne (by omega), up_ne (by omega)]
      have et : tc (mkS (trB s.K (s.f.getD 0 0) (s.f.getD 1 0) x) s.ln s.w (s.f ++ [x]) s.on s.sw s.sn s.sf (up s.se (s.K 40) s.sn)) = trB s.K (s.f.getD 0 0) (s.f.getD 1 0) x 40 + 1 := if_pos ⟨c.1, e3⟩
      refine ⟨?_, fun t ht => ?_, fun _ => ?_⟩
      · rw [et, e40]
        exact RC.trip r b rfl hK40
      · have ht' : t < s.K 40 := by rw [← e40]; exact ht
        show oT s.sf (fs (up s.se (s.K 40) s.sn) t) (up s.se (s.K 40) s.sn t - fs (up s.se (s.K 40) s.sn) t) = 0
        rw [fs_up (by omega), up_ne (by omega)]
        exact o1 t ht'
      · show oT s.sf (fs (up s.se (s.K 40) s.sn) (trB s.K (s.f.getD 0 0) (s.f.getD 1 0) x 40)) (up s.se (s.K 40) s.sn (trB s.K (s.f.getD 0 0) (s.f.getD 1 0) x 40) - fs (up s.se (s.K 40) s.sn) (trB s.K (s.f.getD 0 0) (s.f.getD 1 0) x 40)) = s.on
        rw [e40, fs_up (Nat.le_refl _), up_eq, r.2.2.1, Nat.sub_self, oT, o4.1]
    · rw [if_neg c]
      have hu' : ¬ uw (mkS s.K s.ln s.w (s.f ++ [x]) s.on s.sw s.sn s.sf s.se) := fun z => c ⟨z.1, by have : (s.f ++ [x]).length = 3 := z.2; rw [List.length_append] at this; simp at this; exact this⟩
      exact ⟨by rw [tc_n hu']; exact r, o1, fun z => absurd z hu'⟩
  · have hlen : s.f.length = 3 := by have := w.2.2.2.2.2 (by omega); rw [w9] at this; have : s.f.length ≤ 3 := this; omega
    have hu : uw s := ⟨w9, hlen⟩
    have o3 := o3 hu
    have o2 := o2 hu
    rw [tc_u hu] at b r
    have hq : okS s.K (s.sw, v) (oT s.sf (fs s.se (s.K 40)) (s.se (s.K 40) - fs s.se (s.K 40))) := by
      rw [o2]
      rcases o5 with z | z | z | z
      · exact absurd z sw0
      · exact Or.inl ⟨z, by rw [if_pos z] at hv; exact hv⟩
      · exact Or.inr (Or.inl ⟨z, by rw [if_neg (by omega)] at hv; exact hv, fun y => h12 z (o3 _ y)⟩)
      · exact Or.inr (Or.inr ⟨z, by rw [if_neg (by omega)] at hv; exact hv, h13 z⟩)
    obtain ⟨s1, s2, s3⟩ := RC.step r b hq
    rw [o2] at s1 s3
    have eK : (if s.sw = 11 then legK s.K (s.K 40) s.on v else if s.sw = 12 then onK s.K (s.K 40) v else offK s.K (s.K 40) v) = on1 s.K (s.K 40) s.on (s.sw, v) := rfl
    unfold stpN
    rw [eK]
    have e40 : on1 s.K (s.K 40) s.on (s.sw, v) 40 = s.K 40 := by
      have hb1 := b.1
      have hpl := (b.2.2.2.2.1 (s.K 40) (by omega)).2.2.2.2
      refine on1_nj (by omega) (by omega) (fun z => ?_) (fun z => ?_) (by unfold jx; omega)
      · unfold okS at hq; simp at hq z ⊢; omega
      · unfold okS at hq; simp at hq z ⊢; omega
    have et : tc (mkS (on1 s.K (s.K 40) s.on (s.sw, v)) s.ln s.w s.f (if s.sw = 11 then s.on else s.on ^^^ 2 ^ v) 0 (s.sn + 1) (fun j => if j = s.sn then (s.sw, v) else s.sf j) (up s.se (s.K 40) (s.sn + 1))) = on1 s.K (s.K 40) s.on (s.sw, v) 40 + 1 := if_pos hu
    refine ⟨?_, fun t ht => ?_, fun _ => ?_⟩
    · rw [et, e40]; exact s1
    · have ht' : t < s.K 40 := by rw [← e40]; exact ht
      exact (s2 t ht').trans (o1 t ht')
    · show oT (sfU s.sf s.sn (s.sw, v)) (fs (up s.se (s.K 40) (s.sn + 1)) (on1 s.K (s.K 40) s.on (s.sw, v) 40)) (up s.se (s.K 40) (s.sn + 1) (on1 s.K (s.K 40) s.on (s.sw, v) 40) - fs (up s.se (s.K 40) (s.sn + 1)) (on1 s.K (s.K 40) s.on (s.sw, v) 40)) = (if s.sw = 11 then s.on else s.on ^^^ 2 ^ v)
      rw [e40]
      exact s3
  · exact ⟨r, o1, o2⟩
  · have hu' : ¬ uw (endL s) := fun z => by cases z.1
    have hlen : s.f.length = wnt s.w := by have := w.2.2.2.2.2 w0; omega
    have hb1 := b.1
    have w' := w.1
    have key : ∀ K' : Nat → Nat, endK s = K' → K' 40 = tc s → (∀ k, 101 ≤ k → K' k = s.K k) → (∀ p, p < s.K 37 → K' (41 + p) = s.K (41 + p) ∧ K' (53 + p) = s.K (53 + p)) → s.K 37 ≤ K' 37 → s.K 39 ≤ K' 39 → RP (endL s) := by
      intro K' eK e40 h1 h2 h4 h5
      refine ⟨?_, fun t ht => ?_, fun z => absurd z hu'⟩
      · rw [tc_n hu']
        show RC (endK s) s.sf s.se (endK s 40) s.sn
        rw [eK, e40]
        exact RC.mono r b (fun k hk => h1 k (by unfold jx at hk; omega)) h2 (fun t ht => h1 _ (by omega)) h4 h5
      · have ht' : t < tc s := by rw [← e40, ← eK]; exact ht
        show oT s.sf (fs s.se t) (s.se t - fs s.se t) = 0
        by_cases c : t < s.K 40
        · exact o1 t c
        · by_cases hu : uw s
          · rw [tc_u hu] at ht'
            have e : t = s.K 40 := by omega
            rw [e, o2 hu]
            exact (h9 hu.1).2
          · rw [tc_n hu] at ht'; omega
    by_cases c5 : s.w = 5
    · refine key _ (by rw [endK, if_pos c5]) ?_ (fun k hk => up_ne (by omega)) (fun p hp => ⟨up_ne (by omega), up_ne (by omega)⟩) (by rw [up_ne (by omega)]; exact Nat.le_refl _) (by rw [up_ne (by omega)]; exact Nat.le_refl _)
      rw [up_ne (by omega), tc_n (fun z => by have := z.1; omega)]
    by_cases c6 : s.w = 6
    · have := w.2.1 c6
      refine key _ (by rw [endK, if_neg c5, if_pos c6]) ?_ (fun k hk => ?_) (fun p hp => ⟨?_, ?_⟩) ?_ ?_
      · rw [up_ne (by omega), up_ne (by omega), up_ne (by omega), tc_n (fun z => by have := z.1; omega)]
      · rw [up_ne (by omega), up_ne (by omega), up_ne (by omega)]
      · rw [up_ne (by omega), up_ne (by omega), up_ne (by omega)]
      · rw [up_ne (by omega), up_ne (by omega), up_ne (by omega)]
      · rw [up_eq]; omega
      · rw [up_ne (by omega), up_ne (by omega), up_ne (by omega)]; exact Nat.le_refl _
    by_cases c7 : s.w = 7
    · have := w.2.2.1 c7
      refine key _ (by rw [endK, if_neg c5, if_neg c6, if_pos c7]) ?_ (fun k hk => ?_) (fun p hp => ⟨?_, ?_⟩) ?_ ?_
      · rw [up_ne (by omega), up_ne (by omega), up_ne (by omega), tc_n (fun z => by have := z.1; omega)]
      · rw [up_ne (by omega), up_ne (by omega), up_ne (by omega)]
      · rw [up_ne (by omega), up_ne (by omega), up_ne (by omega)]
      · rw [up_ne (by omega), up_ne (by omega), up_ne (by omega)]
      · rw [up_ne (by omega), up_ne (by omega), up_ne (by omega)]; exact Nat.le_refl _
      · rw [up_ne (by omega), up_ne (by omega), up_ne (by omega)]; exact Nat.le_refl _
    by_cases c8 : s.w = 8
    · have := w.2.2.2.1 c8
      refine key _ (by rw [endK, if_neg c5, if_neg c6, if_neg c7, if_pos c8]) ?_ (fun k hk => ?_) (fun p hp => ⟨?_, ?_⟩) ?_ ?_
      · rw [up_ne (by omega), up_ne (by omega), up_ne (by omega), up_ne (by omega), tc_n (fun z => by have := z.1; omega)]
      · rw [up_ne (by omega), up_ne (by omega), up_ne (by omega), up_ne (by omega)]
      · rw [up_ne (by omega), up_ne (by omega), up_ne (by omega), up_ne (by omega)]
      · rw [up_ne (by omega), up_ne (by omega), up_ne (by omega), up_ne (by omega)]
      · rw [up_ne (by omega), up_ne (by omega), up_ne (by omega), up_ne (by omega)]; exact Nat.le_refl _
      · rw [up_eq]; omega
    · have c9 : s.w = 9 := by omega
      have hl3 : s.f.length = 3 := by rw [c9] at hlen; exact hlen
      refine key _ (by rw [endK, if_neg c5, if_neg c6, if_neg c7, if_neg c8]) ?_ (fun k hk => up_ne (by omega)) (fun p hp => ⟨up_ne (by omega), up_ne (by omega)⟩) (by rw [up_ne (by omega)]; exact Nat.le_refl _) (by rw [up_ne (by omega)]; exact Nat.le_refl _)
      rw [up_eq, tc_u ⟨c9, hl3⟩]
/-- all that is kept along a text -/
def RI (B : Nat → Nat) (T : Nat) (s : RS) (p : Nat) : Prop := RA s ∧ RP s ∧ RQ B T s p
theorem RI_k {B : Nat → Nat} {T : Nat} (s : RS) (p : Nat) (s' : RS) (h : RI B T s p) (hk : ¬ tK B T p = 0) (hs : stp s (tK B T p) (tV B T p) = .ok s') : RI B T s' (tN B T p) := ⟨RA_k h.1 hs, RP_k h.2.1 h.1 hs, RQ_k h.2.2 h.1 hk hs⟩
theorem RI_0 {B : Nat → Nat} {T : Nat} : RI B T s00 0 := ⟨RA_0, RP_0, Nat.zero_le _, Nat.le_refl _, Nat.le_refl _, Nat.zero_le _, fun z => absurd rfl z⟩
theorem RI_B {B : Nat → Nat} {T : Nat} (hT : T ≤ 840) (s : RS) (p : Nat) (h : RI B T s p) (hw : s.w = 0) : RB s := by
  obtain ⟨⟨⟨b1, b2, b3, -⟩, -⟩, -, ⟨q1, q2, -⟩⟩ := h
  exact ⟨by omega, b1.2.2.2.1, b1.2.1, b1.1, b1.2.2.1, b3⟩
theorem RI_W {B : Nat → Nat} {T : Nat} {s : RS} {p : Nat} (h : RI B T s p) (hw : s.w = 0) : WF s.K ∧ WZ s.K ∧ RC s.K s.sf s.se (s.K 40) s.sn ∧ (∀ t, t < s.K 40 → oT s.sf (fs s.se t) (s.se t - fs s.se t) = 0) ∧ s.sn ≤ 200 ∧ BA s.K (s.K 40) s.sn := by
  obtain ⟨⟨b, -⟩, ⟨r, o, -⟩, ⟨q1, q2, q3, q4, -⟩⟩ := h
  have hu : ¬ uw s := fun z => by have := z.1; omega
  rw [tc_n hu] at b r
  obtain ⟨w1, w2⟩ := b.wf q4
  exact ⟨w1, w2, r, o, q4, b⟩
