/-! the steps once more: what the class drives when all is told -/
def fs (se : Nat → Nat) (t : Nat) : Nat := if t = 0 then 0 else se (t - 1)
def oT (sf : Nat → Nat × Nat) (a : Nat) : Nat → Nat
  | 0 => 0
  | n + 1 => if (sf (a + n)).1 = 11 then oT sf a n else oT sf a n ^^^ 2 ^ (sf (a + n)).2
def on1 (H : Nat → Nat) (t on : Nat) (q : Nat × Nat) : Nat → Nat := if q.1 = 11 then legK H t on q.2 else if q.1 = 12 then onK H t q.2 else offK H t q.2
def rT (sf : Nat → Nat × Nat) (t a : Nat) (H : Nat → Nat) : Nat → Nat → Nat
  | 0 => H
  | n + 1 => on1 (rT sf t a H n) t (oT sf a n) (sf (a + n))
def rA (sf : Nat → Nat × Nat) (se : Nat → Nat) (H : Nat → Nat) : Nat → Nat → Nat
  | 0 => H
  | t + 1 => rT sf t (fs se t) (up (rA sf se H t) (105 + 6 * t) (rA sf se H t (104 + 6 * t))) (se t - fs se t)
def jx (k : Nat) : Prop := 102 ≤ k ∧ k < 869 ∧ (k < 197 → ¬ k % 6 = 5 ∧ ¬ k % 6 = 2)
def jb (k : Nat) : Bool := decide (102 ≤ k) && decide (k < 869) && (decide (197 ≤ k) || (!decide (k % 6 = 5) && !decide (k % 6 = 2)))
theorem jb_x (k : Nat) : jb k = true ↔ jx k := by
  unfold jb jx
  simp
  omega
def z0 (K : Nat → Nat) : Nat → Nat := fun k => if jb k = true then 0 else K k
theorem z0_j {K : Nat → Nat} {k : Nat} (h : jx k) : z0 K k = 0 := by rw [z0, if_pos ((jb_x k).mpr h)]
theorem z0_n {K : Nat → Nat} {k : Nat} (h : ¬ jx k) : z0 K k = K k := by rw [z0, if_neg (fun z => h ((jb_x k).mp z))]
def okS (K : Nat → Nat) (q : Nat × Nat) (on : Nat) : Prop := (q.1 = 11 ∧ q.2 < K 37) ∨ (q.1 = 12 ∧ q.2 < K 39 ∧ ¬ on.testBit q.2 = true) ∨ (q.1 = 13 ∧ q.2 < K 39 ∧ on.testBit q.2 = true)
/-- alike where it matters -/
def Ag (M n : Nat) (H H' : Nat → Nat) : Prop := (∀ k, jx k → H k = H' k) ∧ (∀ p, p < M → H (41 + p) = H' (41 + p) ∧ H (53 + p) = H' (53 + p)) ∧ ∀ t, t < n → H (104 + 6 * t) = H' (104 + 6 * t)
theorem on1_nj {H : Nat → Nat} {t on : Nat} {q : Nat × Nat} (ht : t < 16) (hp : H (105 + 6 * t) < 12) (h1 : q.1 = 11 → q.2 < 12) (h2 : ¬ q.1 = 11 → q.2 < 16) {k : Nat} (hk : ¬ jx k) : on1 H t on q k = H k := by
  unfold jx at hk
  unfold on1
  by_cases c : q.1 = 11
  · have := h1 c
    rw [if_pos c, legK, if_neg (by omega), if_neg (by omega), if_neg (by omega), if_neg (by omega), if_neg (by omega)]
  · have := h2 c
    rw [if_neg c]
    split
    · rw [onK, up_ne (by omega), up_ne (by omega)]
    · rw [offK, up_ne (by omega), up_ne (by omega)]
theorem on1_pl {H : Nat → Nat} {t on : Nat} {q : Nat × Nat} (ht : t < 16) (h2 : ¬ q.1 = 11 → q.2 < 16) : on1 H t on q (105 + 6 * t) = if q.1 = 11 then q.2 else H (105 + 6 * t) := by
  unfold on1
  by_cases c : q.1 = 11
  · rw [if_pos c, if_pos c, legK, if_pos rfl]
  · have := h2 c
    rw [if_neg c, if_neg c]
    split
    · rw [onK, up_ne (by omega), up_ne (by omega)]
    · rw [offK, up_ne (by omega), up_ne (by omega)]
theorem on1_ag {M n t on : Nat} {H H' : Nat → Nat} {q : Nat × Nat} (h : Ag M n H H') (ht : t < 16) (hM : M ≤ 12) (hp : H (105 + 6 * t) < M) (h1 : q.1 = 11 → q.2 < M) (h2 : ¬ q.1 = 11 → q.2 < 16) : Ag M n (on1 H t on q) (on1 H' t on q) := by
  have j5 : jx (105 + 6 * t) := by unfold jx; omega
  have j6 : jx (106 + 6 * t) := by unfold jx; omega
  have e5 := h.1 _ j5
  refine ⟨fun k hk => ?_, fun p hp' => ?_, fun u hu => ?_⟩
  · have ek := h.1 k hk
    unfold on1
    by_cases c : q.1 = 11
    · have ed : dd H (H (105 + 6 * t)) q.2 = dd H' (H' (105 + 6 * t)) q.2 := by
        rw [← e5]
        unfold dd
        rw [(h.2.1 _ hp).1, (h.2.1 _ hp).2, (h.2.1 _ (h1 c)).1, (h.2.1 _ (h1 c)).2]
      rw [if_pos c, if_pos c]
      unfold legK
      rw [ed, ek, ← e5]
    · rw [if_neg c, if_neg c]
      split
      · unfold onK up
        rw [e5, h.1 _ j6, ek]
      · unfold offK up
        rw [e5, h.1 _ j6, ek]
  · have n1 : ¬ jx (41 + p) := by unfold jx; omega
    have n2 : ¬ jx (53 + p) := by unfold jx; omega
    rw [on1_nj ht (by omega) (fun z => by have := h1 z; omega) h2 n1, on1_nj ht (by omega) (fun z => by have := h1 z; omega) h2 n2, on1_nj ht (by omega) (fun z => by have := h1 z; omega) h2 n1, on1_nj ht (by omega) (fun z => by have := h1 z; omega) h2 n2]
    exact h.2.1 p hp'
  · by_cases c : u < 16
    · have n1 : ¬ jx (104 + 6 * u) := by unfold jx; omega
      rw [on1_nj ht (by omega) (fun z => by have := h1 z; omega) h2 n1, on1_nj ht (by omega) (fun z => by have := h1 z; omega) h2 n1]
      exact h.2.2 u hu
    · by_cases c2 : jx (104 + 6 * u)
      · have ek := h.1 _ c2
        unfold on1
        by_cases c : q.1 = 11
        · have ed : dd H (H (105 + 6 * t)) q.2 = dd H' (H' (105 + 6 * t)) q.2 := by
            rw [← e5]
            unfold dd
            rw [(h.2.1 _ hp).1, (h.2.1 _ hp).2, (h.2.1 _ (h1 c)).1, (h.2.1 _ (h1 c)).2]
          rw [if_pos c, if_pos c]
          unfold legK
          rw [ed, ek, ← e5]
        · rw [if_neg c, if_neg c]
          split
          · unfold onK up
            rw [e5, h.1 _ j6, ek]
          · unfold offK up
            rw [e5, h.1 _ j6, ek]
      · rw [on1_nj ht (by omega) (fun z => by have := h1 z; omega) h2 c2, on1_nj ht (by omega) (fun z => by have := h1 z; omega) h2 c2]
        exact h.2.2 u hu
/-- steps that may be driven -/
def sV (M : Nat) (sf : Nat → Nat × Nat) (a n : Nat) : Prop := ∀ i, i < n → ((sf (a + i)).1 = 11 → (sf (a + i)).2 < M) ∧ (¬ (sf (a + i)).1 = 11 → (sf (a + i)).2 < 16)
theorem rT_pl {M t a : Nat} {sf : Nat → Nat × Nat} {H : Nat → Nat} (ht : t < 16) (hp : H (105 + 6 * t) < M) : ∀ {n : Nat}, sV M sf a n → rT sf t a H n (105 + 6 * t) < M
  | 0, _ => hp
  | n + 1, hv => by
    rw [rT, on1_pl ht (hv n (by omega)).2]
    split
    · rename_i c; exact (hv n (by omega)).1 c
    · exact rT_pl ht hp (fun i hi => hv i (by omega))
theorem rT_nj {M t a : Nat} {sf : Nat → Nat × Nat} {H : Nat → Nat} (ht : t < 16) (hM : M ≤ 12) (hp : H (105 + 6 * t) < M) {k : Nat} (hk : ¬ jx k) : ∀ {n : Nat}, sV M sf a n → rT sf t a H n k = H k
  | 0, _ => rfl
  | n + 1, hv => by
    have hv' : sV M sf a n := fun i hi => hv i (by omega)
    have := rT_pl ht hp hv'
    rw [rT, on1_nj ht (by omega) (fun z => by have := (hv n (by omega)).1 z; omega) (hv n (by omega)).2 hk]
    exact rT_nj ht hM hp hk hv'
theorem rT_ag {M N t a : Nat} {sf : Nat → Nat × Nat} {H H' : Nat → Nat} (h : Ag M N H H') (ht : t < 16) (hM : M ≤ 12) (hp : H (105 + 6 * t) < M) : ∀ {n : Nat}, sV M sf a n → Ag M N (rT sf t a H n) (rT sf t a H' n)
  | 0, _ => h
  | n + 1, hv => by
    have hv' : sV M sf a n := fun i hi => hv i (by omega)
    have hp' := rT_pl ht hp hv'
    exact on1_ag (rT_ag h ht hM hp hv') ht hM hp' (hv n (by omega)).1 (hv n (by omega)).2
theorem oT_sf {sf sf' : Nat → Nat × Nat} {a : Nat} : ∀ {n : Nat}, (∀ i, i < n → sf (a + i) = sf' (a + i)) → oT sf a n = oT sf' a n
  | 0, _ => rfl
  | n + 1, h => by rw [oT, oT, h n (by omega), oT_sf (fun i hi => h i (by omega))]
theorem rT_sf {sf sf' : Nat → Nat × Nat} {t a : Nat} {H : Nat → Nat} : ∀ {n : Nat}, (∀ i, i < n → sf (a + i) = sf' (a + i)) → rT sf t a H n = rT sf' t a H n
  | 0, _ => rfl
  | n + 1, h => by rw [rT, rT, h n (by omega), rT_sf (fun i hi => h i (by omega)), oT_sf (n := n) (fun i hi => h i (by omega))]
theorem rA_sf {sf sf' : Nat → Nat × Nat} {se se' : Nat → Nat} {H : Nat → Nat} {m : Nat} : ∀ {n : Nat}, (∀ t, t < n → fs se t = fs se' t ∧ se t = se' t ∧ se t ≤ m) → (∀ i, i < m → sf i = sf' i) → rA sf se H n = rA sf' se' H n
  | 0, _, _ => rfl
  | n + 1, h, hs => by
    obtain ⟨h1, h2, h3⟩ := h n (by omega)
    rw [rA, rA, rA_sf (n := n) (fun t ht => h t (by omega)) hs, ← h1, ← h2]
    exact rT_sf (fun i hi => hs _ (by omega))
/-- trips that may be driven -/
def sW (M : Nat) (sf : Nat → Nat × Nat) (se H : Nat → Nat) (n : Nat) : Prop := n ≤ 16 ∧ M ≤ 12 ∧ ∀ t, t < n → H (104 + 6 * t) < M ∧ sV M sf (fs se t) (se t - fs se t)
theorem sW.s {M n : Nat} {sf : Nat → Nat × Nat} {se H : Nat → Nat} (h : sW M sf se H (n + 1)) : sW M sf se H n := ⟨by have := h.1; omega, h.2.1, fun t ht => h.2.2 t (by omega)⟩
theorem rA_nj {M : Nat} {sf : Nat → Nat × Nat} {se H : Nat → Nat} {k : Nat} (hk : ¬ jx k) : ∀ {n : Nat}, sW M sf se H n → rA sf se H n k = H k
  | 0, _ => rfl
  | n + 1, h => by
    have n4 : ¬ jx (104 + 6 * n) := by have := h.1; unfold jx; omega
    have hk5 : ¬ k = 105 + 6 * n := fun z => hk (by have := h.1; unfold jx; omega)
    have e4 := rA_nj n4 h.s
    obtain ⟨a1, a2⟩ := h.2.2 n (by omega)
    rw [rA, rT_nj (M := M) (by have := h.1; omega) h.2.1 (by rw [up_eq, e4]; exact a1) hk a2, up_ne hk5]
    exact rA_nj hk h.s
theorem rA_ag {M N : Nat} {sf : Nat → Nat × Nat} {se H H' : Nat → Nat} (h : Ag M N H H') : ∀ {n : Nat}, n ≤ N → sW M sf se H n → Ag M N (rA sf se H n) (rA sf se H' n)
  | 0, _, _ => h
  | n + 1, hn, hw => by
    have ih := rA_ag h (n := n) (by omega) hw.s
    have n4 : ¬ jx (104 + 6 * n) := by have := hw.1; unfold jx; omega
    have e4 := rA_nj n4 hw.s
    obtain ⟨a1, a2⟩ := hw.2.2 n (by omega)
    have hh := ih.2.2 n (by omega)
    refine rT_ag ?_ (by have := hw.1; omega) hw.2.1 (by rw [up_eq, e4]; exact a1) a2
    refine ⟨fun k hk => ?_, fun p hp => ?_, fun t ht => ?_⟩
    · unfold up
      rw [hh, ih.1 k hk]
    · have := hw.2.1
      rw [up_ne (by omega), up_ne (by omega), up_ne (by omega), up_ne (by omega)]
      exact ih.2.1 p hp
    · rw [up_ne (by omega), up_ne (by omega)]
      exact ih.2.2 t ht
