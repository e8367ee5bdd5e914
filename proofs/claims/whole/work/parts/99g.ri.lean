/-! what holds of the row as it is read -/
def uw (s : RS) : Prop := s.w = 9 ∧ s.f.length = 3
def BA (K : Nat → Nat) (n sn : Nat) : Prop :=
  (K 37 ≤ 12 ∧ K 38 ≤ 4 ∧ K 39 ≤ 16 ∧ K 40 ≤ 16 ∧ K 36 ≤ 999 ∧ n ≤ 16) ∧
  (∀ k, k < 4 → K k ≤ 9999 ∧ K (65 + k) ≤ 999 ∧ (K 38 ≤ k → K k = 0)) ∧
  (∀ p, p < 12 → K (41 + p) ≤ 99 ∧ K (53 + p) ≤ 99) ∧
  (∀ l, l < K 39 → K (20 + l) ≤ 99 ∧ K (69 + l) < K 37 ∧ K (85 + l) < K 37) ∧
  (∀ t, t < n → K (4 + t) ≤ 10000 ∧ K (101 + 6 * t) < K 38 ∧ K (102 + 6 * t) ≤ 198 * sn ∧ K (104 + 6 * t) < K 37 ∧ K (105 + 6 * t) < K 37) ∧
  (∀ t, t < n → K (106 + 6 * t) < 65536 ∧ ∀ l, (K (106 + 6 * t)).testBit l = true → l < K 39) ∧
  (∀ t, n ≤ t → t < 16 → K (102 + 6 * t) = 0 ∧ K (103 + 6 * t) = 0 ∧ K (106 + 6 * t) = 0) ∧
  (∀ k, 197 ≤ k → k < 709 → K k = 0 ∨ K k < K 37) ∧
  (∀ a b, a < 12 → b < 12 → K (709 + 12 * a + b) ≤ sn ∧ (K 37 ≤ a ∨ K 37 ≤ b ∨ a = b → K (709 + 12 * a + b) = 0))
theorem BA_dd {K : Nat → Nat} {n sn : Nat} (h : BA K n sn) {p q : Nat} (hp : p < 12) (hq : q < 12) : dd K p q ≤ 198 := by
  have h3 := h.2.2.1
  have := ab_le (h3 p hp).1 (h3 q hq).1
  have := ab_le (h3 p hp).2 (h3 q hq).2
  unfold dd
  omega
theorem BA.wf {K : Nat → Nat} {sn : Nat} (h : BA K (K 40) sn) (hs : sn ≤ 200) : WF K ∧ WZ K := by
  obtain ⟨⟨a1, a2, a3, a4, a5, -⟩, b, c, d, e, f, g, i, j⟩ := h
  refine ⟨⟨a5, a1, a2, a3, a4, fun k hk => ⟨(b k hk).1, (b k hk).2.1⟩, c, d, fun t ht => ?_, fun t l ht hl => ?_⟩, fun k h1 h2 => (b k h2).2.2 h1, fun x y h1 h2 h3 => (j x y h1 h2).2 h3, fun k hk => ?_⟩
  · have := e t ht
    have := (f t ht).1
    omega
  · have h1 := (f t ht).2 l hl
    have h2 := e t ht
    have h3 := i (197 + 16 * t + l) (by omega) (by omega)
    have h4 := i (453 + 16 * t + l) (by omega) (by omega)
    omega
  · have := (j (k / 12) (k % 12) (by omega) (by omega)).1
    rw [show 709 + 12 * (k / 12) + k % 12 = 709 + k by omega] at this
    omega
section BAK
variable {K : Nat → Nat} {n sn : Nat}
theorem BA_mono (h : BA K n sn) {m : Nat} (hm : sn ≤ m) : BA K n m := by
  obtain ⟨a, b, c, d, e, f, g, i, j⟩ := h
  refine ⟨a, b, c, d, fun t ht => ?_, f, g, i, fun x y hx hy => ?_⟩
  · have := e t ht; omega
  · have := j x y hx hy; exact ⟨by omega, this.2⟩
theorem BA.desk (h : BA K n sn) {v : Nat} (hv : v ≤ 999) : BA (up K 36 v) n sn := by
  obtain ⟨a, b, c, d, e, f, g, i, j⟩ := h
  have u : ∀ k, ¬ k = 36 → up K 36 v k = K k := fun k hk => up_ne hk
  unfold BA
  rw [u 37 (by omega), u 38 (by omega), u 39 (by omega), u 40 (by omega), up_eq]
  refine ⟨by omega, fun k hk => ?_, fun k hk => ?_, fun k hk => ?_, fun t ht => ?_, fun t ht => ?_, fun t ht h16 => ?_, fun k h1 h2 => ?_, fun x y hx hy => ?_⟩
  · rw [u _ (by omega), u _ (by omega)]; exact b k hk
  · rw [u _ (by omega), u _ (by omega)]; exact c k hk
  · rw [u _ (by omega), u _ (by omega), u _ (by omega)]; exact d k hk
  · rw [u _ (by omega), u _ (by omega), u _ (by omega), u _ (by omega), u _ (by omega)]; exact e t ht
  · rw [u _ (by omega)]; exact f t ht
  · rw [u _ (by omega), u _ (by omega), u _ (by omega)]; exact g t ht h16
  · rw [u _ (by omega)]; exact i k h1 h2
  · rw [u _ (by omega)]; exact j x y hx hy
theorem BA.trips (h : BA K n sn) {v : Nat} (hv : v ≤ 16) : BA (up K 40 v) n sn := by
  obtain ⟨a, b, c, d, e, f, g, i, j⟩ := h
  have u : ∀ k, ¬ k = 40 → up K 40 v k = K k := fun k hk => up_ne hk
  unfold BA
  rw [u 37 (by omega), u 38 (by omega), u 39 (by omega), u 36 (by omega), up_eq]
  refine ⟨by omega, fun k hk => ?_, fun k hk => ?_, fun k hk => ?_, fun t ht => ?_, fun t ht => ?_, fun t ht h16 => ?_, fun k h1 h2 => ?_, fun x y hx hy => ?_⟩
  · rw [u _ (by omega), u _ (by omega)]; exact b k hk
  · rw [u _ (by omega), u _ (by omega)]; exact c k hk
  · rw [u _ (by omega), u _ (by omega), u _ (by omega)]; exact d k hk
  · rw [u _ (by omega), u _ (by omega), u _ (by omega), u _ (by omega), u _ (by omega)]; exact e t ht
  · rw [u _ (by omega)]; exact f t ht
  · rw [u _ (by omega), u _ (by omega), u _ (by omega)]; exact g t ht h16
  · rw [u _ (by omega)]; exact i k h1 h2
  · rw [u _ (by omega)]; exact j x y hx hy
theorem BA.place (h : BA K n sn) {v v2 : Nat} (hv : v ≤ 99) (hv2 : v2 ≤ 99) (hk : K 37 < 12) : BA (up (up (up K (41 + K 37) v) (53 + K 37) v2) 37 (K 37 + 1)) n sn := by
  obtain ⟨a, b, c, d, e, f, g, i, j⟩ := h
  have u : ∀ k, ¬ k = 37 → ¬ k = 41 + K 37 → ¬ k = 53 + K 37 → up (up (up K (41 + K 37) v) (53 + K 37) v2) 37 (K 37 + 1) k = K k := fun k h1 h2 h3 => by rw [up_ne h1, up_ne h3, up_ne h2]
  unfold BA
  rw [u 38 (by omega) (by omega) (by omega), u 39 (by omega) (by omega) (by omega), u 40 (by omega) (by omega) (by omega), u 36 (by omega) (by omega) (by omega), up_eq]
  refine ⟨by omega, fun k hk => ?_, fun k hk => ?_, fun k hk => ?_, fun t ht => ?_, fun t ht => ?_, fun t ht h16 => ?_, fun k h1 h2 => ?_, fun x y hx hy => ?_⟩
  · rw [u _ (by omega) (by omega) (by omega), u _ (by omega) (by omega) (by omega)]; exact b k hk
  · have := c k hk
    unfold up
    repeat' split
    all_goals omega
  · rw [u _ (by omega) (by omega) (by omega), u _ (by omega) (by omega) (by omega), u _ (by omega) (by omega) (by omega)]; have := d k hk; omega
  · rw [u _ (by omega) (by omega) (by omega), u _ (by omega) (by omega) (by omega), u _ (by omega) (by omega) (by omega), u _ (by omega) (by omega) (by omega), u _ (by omega) (by omega) (by omega)]; have := e t ht; omega
  · rw [u _ (by omega) (by omega) (by omega)]; exact f t ht
  · rw [u _ (by omega) (by omega) (by omega), u _ (by omega) (by omega) (by omega), u _ (by omega) (by omega) (by omega)]; exact g t ht h16
  · rw [u _ (by omega) (by omega) (by omega)]; have := i k h1 h2; omega
  · rw [u _ (by omega) (by omega) (by omega)]; have := j x y hx hy; exact ⟨this.1, fun z => this.2 (by omega)⟩
theorem BA.truck (h : BA K n sn) {v v2 : Nat} (hv : v ≤ 999) (hv2 : v2 ≤ 9999) (hk : K 38 < 4) : BA (up (up (up K (65 + K 38) v) (K 38) v2) 38 (K 38 + 1)) n sn := by
  obtain ⟨a, b, c, d, e, f, g, i, j⟩ := h
  have u : ∀ k, ¬ k = 38 → ¬ k = 65 + K 38 → ¬ k = K 38 → up (up (up K (65 + K 38) v) (K 38) v2) 38 (K 38 + 1) k = K k := fun k h1 h2 h3 => by rw [up_ne h1, up_ne h3, up_ne h2]
  unfold BA
  rw [u 37 (by omega) (by omega) (by omega), u 39 (by omega) (by omega) (by omega), u 40 (by omega) (by omega) (by omega), u 36 (by omega) (by omega) (by omega), up_eq]
  refine ⟨by omega, fun k hk => ?_, fun k hk => ?_, fun k hk => ?_, fun t ht => ?_, fun t ht => ?_, fun t ht h16 => ?_, fun k h1 h2 => ?_, fun x y hx hy => ?_⟩
  · have := b k hk
    unfold up
    repeat' split
    all_goals omega
  · rw [u _ (by omega) (by omega) (by omega), u _ (by omega) (by omega) (by omega)]; exact c k hk
  · rw [u _ (by omega) (by omega) (by omega), u _ (by omega) (by omega) (by omega), u _ (by omega) (by omega) (by omega)]; exact d k hk
  · rw [u _ (by omega) (by omega) (by omega), u _ (by omega) (by omega) (by omega), u _ (by omega) (by omega) (by omega), u _ (by omega) (by omega) (by omega), u _ (by omega) (by omega) (by omega)]; have := e t ht; omega
  · rw [u _ (by omega) (by omega) (by omega)]; exact f t ht
  · rw [u _ (by omega) (by omega) (by omega), u _ (by omega) (by omega) (by omega), u _ (by omega) (by omega) (by omega)]; exact g t ht h16
  · rw [u _ (by omega) (by omega) (by omega)]; exact i k h1 h2
  · rw [u _ (by omega) (by omega) (by omega)]; exact j x y hx hy
theorem BA.load (h : BA K n sn) {v v2 v3 : Nat} (hv : v ≤ 99) (hv2 : v2 < K 37) (hv3 : v3 < K 37) (hk : K 39 < 16) : BA (up (up (up (up K (20 + K 39) v) (69 + K 39) v2) (85 + K 39) v3) 39 (K 39 + 1)) n sn := by
  obtain ⟨a, b, c, d, e, f, g, i, j⟩ := h
  have u : ∀ k, ¬ k = 39 → ¬ k = 20 + K 39 → ¬ k = 69 + K 39 → ¬ k = 85 + K 39 → up (up (up (up K (20 + K 39) v) (69 + K 39) v2) (85 + K 39) v3) 39 (K 39 + 1) k = K k := fun k h1 h2 h3 h4 => by rw [up_ne h1, up_ne h4, up_ne h3, up_ne h2]
  unfold BA
  rw [u 37 (by omega) (by omega) (by omega) (by omega), u 38 (by omega) (by omega) (by omega) (by omega), u 40 (by omega) (by omega) (by omega) (by omega), u 36 (by omega) (by omega) (by omega) (by omega), up_eq]
  refine ⟨by omega, fun k hk => ?_, fun k hk => ?_, fun k hk => ?_, fun t ht => ?_, fun t ht => ?_, fun t ht h16 => ?_, fun k h1 h2 => ?_, fun x y hx hy => ?_⟩
  · rw [u _ (by omega) (by omega) (by omega) (by omega), u _ (by omega) (by omega) (by omega) (by omega)]; exact b k hk
  · rw [u _ (by omega) (by omega) (by omega) (by omega), u _ (by omega) (by omega) (by omega) (by omega)]; exact c k hk
  · by_cases z : k = K 39
    · subst z
      rw [up_ne (by omega), up_ne (by omega), up_ne (by omega), up_eq, up_ne (by omega), up_ne (by omega), up_eq, up_ne (by omega), up_eq]
      omega
    · rw [u _ (by omega) (by omega) (by omega) (by omega), u _ (by omega) (by omega) (by omega) (by omega), u _ (by omega) (by omega) (by omega) (by omega)]; exact d k (by omega)
  · rw [u _ (by omega) (by omega) (by omega) (by omega), u _ (by omega) (by omega) (by omega) (by omega), u _ (by omega) (by omega) (by omega) (by omega), u _ (by omega) (by omega) (by omega) (by omega), u _ (by omega) (by omega) (by omega) (by omega)]; exact e t ht
  · rw [u _ (by omega) (by omega) (by omega) (by omega)]; have := f t ht; exact ⟨this.1, fun l hl => by have := this.2 l hl; omega⟩
  · rw [u _ (by omega) (by omega) (by omega) (by omega), u _ (by omega) (by omega) (by omega) (by omega), u _ (by omega) (by omega) (by omega) (by omega)]; exact g t ht h16
  · rw [u _ (by omega) (by omega) (by omega) (by omega)]; exact i k h1 h2
  · rw [u _ (by omega) (by omega) (by omega) (by omega)]; exact j x y hx hy
theorem BA.trip (h : BA K n sn) {v v2 v3 : Nat} (hn : K 40 = n) (hk : n < 16) (hv : v < K 38) (hv2 : v2 ≤ 10000) (hv3 : v3 < K 37) : BA (trB K v v2 v3) (n + 1) sn := by
  obtain ⟨a, b, c, d, e, f, g, i, j⟩ := h
  unfold trB
  rw [hn]
  have u : ∀ k, ¬ k = 101 + 6 * n → ¬ k = 4 + n → ¬ k = 104 + 6 * n → ¬ k = 105 + 6 * n → up (up (up (up K (101 + 6 * n) v) (4 + n) v2) (104 + 6 * n) v3) (105 + 6 * n) v3 k = K k := fun k h1 h2 h3 h4 => by rw [up_ne h4, up_ne h3, up_ne h2, up_ne h1]
  unfold BA
  rw [u 37 (by omega) (by omega) (by omega) (by omega), u 38 (by omega) (by omega) (by omega) (by omega), u 40 (by omega) (by omega) (by omega) (by omega), u 36 (by omega) (by omega) (by omega) (by omega), u 39 (by omega) (by omega) (by omega) (by omega)]
  refine ⟨by omega, fun k hk => ?_, fun k hk => ?_, fun k hk => ?_, fun t ht => ?_, fun t ht => ?_, fun t ht h16 => ?_, fun k h1 h2 => ?_, fun x y hx hy => ?_⟩
  · rw [u _ (by omega) (by omega) (by omega) (by omega), u _ (by omega) (by omega) (by omega) (by omega)]; exact b k hk
  · rw [u _ (by omega) (by omega) (by omega) (by omega), u _ (by omega) (by omega) (by omega) (by omega)]; exact c k hk
  · rw [u _ (by omega) (by omega) (by omega) (by omega), u _ (by omega) (by omega) (by omega) (by omega), u _ (by omega) (by omega) (by omega) (by omega)]; exact d k (by omega)
  · by_cases z : t = n
    · subst z
      rw [u (102 + 6 * t) (by omega) (by omega) (by omega) (by omega), up_ne (by omega), up_ne (by omega), up_eq, up_ne (by omega), up_ne (by omega), up_ne (by omega), up_eq, up_ne (by omega), up_eq, up_eq]
      have := g t (by omega) (by omega)
      omega
    · rw [u _ (by omega) (by omega) (by omega) (by omega), u _ (by omega) (by omega) (by omega) (by omega), u _ (by omega) (by omega) (by omega) (by omega), u _ (by omega) (by omega) (by omega) (by omega), u _ (by omega) (by omega) (by omega) (by omega)]; exact e t (by omega)
  · rw [u _ (by omega) (by omega) (by omega) (by omega)]
    by_cases z : t = n
    · subst z
      rw [(g t (by omega) (by omega)).2.2]
      exact ⟨by omega, fun l hl => by rw [Nat.zero_testBit] at hl; cases hl⟩
    · exact f t (by omega)
  · rw [u _ (by omega) (by omega) (by omega) (by omega), u _ (by omega) (by omega) (by omega) (by omega), u _ (by omega) (by omega) (by omega) (by omega)]; exact g t (by omega) h16
  · rw [u _ (by omega) (by omega) (by omega) (by omega)]; exact i k h1 h2
  · rw [u _ (by omega) (by omega) (by omega) (by omega)]; exact j x y hx hy
theorem BA.leg (h : BA K (n + 1) sn) {on x : Nat} (hx : x < K 37) : BA (legK K n on x) (n + 1) (sn + 1) := by
  obtain ⟨a, b, c, d, e, f, g, i, j⟩ := id h
  have hp := (e n (by omega)).2.2.2.2
  have hd := BA_dd h (p := K (105 + 6 * n)) (q := x) (by omega) (by omega)
  have u : ∀ k, k < 197 → ¬ k = 105 + 6 * n → ¬ k = 102 + 6 * n → ¬ k = 103 + 6 * n → legK K n on x k = K k := fun k h1 h2 h3 h4 => by rw [legK, if_neg h2, if_neg h3, if_neg (fun z => h4 z.1), if_neg (by omega), if_neg (by omega)]
  have u2 : ∀ k, 197 ≤ k → k < 709 → legK K n on x k = K k := fun k h1 h2 => by rw [legK, if_neg (by omega), if_neg (by omega), if_neg (fun z => by omega), if_neg (by omega), if_neg (by omega)]
  unfold BA
  rw [u 37 (by omega) (by omega) (by omega) (by omega), u 38 (by omega) (by omega) (by omega) (by omega), u 40 (by omega) (by omega) (by omega) (by omega), u 36 (by omega) (by omega) (by omega) (by omega), u 39 (by omega) (by omega) (by omega) (by omega)]
  refine ⟨a, fun k hk => ?_, fun k hk => ?_, fun k hk => ?_, fun t ht => ?_, fun t ht => ?_, fun t ht h16 => ?_, fun k h1 h2 => ?_, fun p q hx hy => ?_⟩
  · rw [u _ (by omega) (by omega) (by omega) (by omega), u _ (by omega) (by omega) (by omega) (by omega)]; exact b k hk
  · rw [u _ (by omega) (by omega) (by omega) (by omega), u _ (by omega) (by omega) (by omega) (by omega)]; exact c k hk
  · rw [u _ (by omega) (by omega) (by omega) (by omega), u _ (by omega) (by omega) (by omega) (by omega), u _ (by omega) (by omega) (by omega) (by omega)]; exact d k (by omega)
  · have hh := e t ht
    rw [u (4 + t) (by omega) (by omega) (by omega) (by omega), u (101 + 6 * t) (by omega) (by omega) (by omega) (by omega), u (104 + 6 * t) (by omega) (by omega) (by omega) (by omega)]
    by_cases z : t = n
    · subst z
      rw [legK, if_neg (by omega), if_pos rfl, legK, if_pos rfl]
      omega
    · rw [u (102 + 6 * t) (by omega) (by omega) (by omega) (by omega), u (105 + 6 * t) (by omega) (by omega) (by omega) (by omega)]
      omega
  · rw [u _ (by omega) (by omega) (by omega) (by omega)]; exact f t ht
  · rw [u _ (by omega) (by omega) (by omega) (by omega), u _ (by omega) (by omega) (by omega) (by omega), u _ (by omega) (by omega) (by omega) (by omega)]; exact g t ht h16
  · rw [u2 _ h1 h2]; exact i k h1 h2
  · have hh := j p q hx hy
    rw [legK, if_neg (by omega), if_neg (by omega), if_neg (by omega), if_neg (by omega)]
    split
    · rename_i z
      exact ⟨by omega, fun w => by omega⟩
    · exact ⟨by omega, hh.2⟩
theorem BA.onoff (h : BA K (n + 1) sn) {x o : Nat} (ho : o = 197 ∨ o = 453) (hx : x < K 39) : BA (up (up K (o + 16 * n + x) (K (105 + 6 * n))) (106 + 6 * n) (K (106 + 6 * n) ||| 2 ^ x)) (n + 1) (sn + 1) := by
  obtain ⟨a, b, c, d, e, f, g, i, j⟩ := BA_mono h (Nat.le_succ sn)
  have hp := (e n (by omega)).2.2.2.2
  have u : ∀ k, ¬ k = o + 16 * n + x → ¬ k = 106 + 6 * n → up (up K (o + 16 * n + x) (K (105 + 6 * n))) (106 + 6 * n) (K (106 + 6 * n) ||| 2 ^ x) k = K k := fun k h1 h2 => by rw [up_ne h2, up_ne h1]
  unfold BA
  rw [u 37 (by omega) (by omega), u 38 (by omega) (by omega), u 40 (by omega) (by omega), u 36 (by omega) (by omega), u 39 (by omega) (by omega)]
  refine ⟨a, fun k hk => ?_, fun k hk => ?_, fun k hk => ?_, fun t ht => ?_, fun t ht => ?_, fun t ht h16 => ?_, fun k h1 h2 => ?_, fun p q hx hy => ?_⟩
  · rw [u _ (by omega) (by omega), u _ (by omega) (by omega)]; exact b k hk
  · rw [u _ (by omega) (by omega), u _ (by omega) (by omega)]; exact c k hk
  · rw [u _ (by omega) (by omega), u _ (by omega) (by omega), u _ (by omega) (by omega)]; exact d k (by omega)
  · rw [u _ (by omega) (by omega), u _ (by omega) (by omega), u _ (by omega) (by omega), u _ (by omega) (by omega), u _ (by omega) (by omega)]; exact e t ht
  · by_cases z : t = n
    · subst z
      rw [up_eq]
      have hf := f t (by omega)
      refine ⟨Nat.or_lt_two_pow (n := 16) hf.1 (Nat.pow_lt_pow_right (by omega) (by omega)), fun l hl => ?_⟩
      rw [Nat.testBit_or, Nat.testBit_two_pow] at hl
      simp at hl
      rcases hl with hl | hl
      · exact hf.2 l hl
      · omega
    · rw [u _ (by omega) (by omega)]; exact f t (by omega)
  · rw [u _ (by omega) (by omega), u _ (by omega) (by omega), u _ (by omega) (by omega)]; exact g t ht h16
  · by_cases z : k = o + 16 * n + x
    · rw [up_ne (by omega), z, up_eq]; exact Or.inr hp
    · rw [u _ z (by omega)]; exact i k h1 h2
  · rw [u _ (by omega) (by omega)]; exact j p q hx hy
end BAK
