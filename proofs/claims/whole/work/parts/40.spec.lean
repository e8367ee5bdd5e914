/-! what a desk comes to, as mathematics: K is the reference's row of numbers (fuel one more, 0: none told) -/
def ab (a b : Nat) : Nat := if a ≤ b then b - a else a - b
def dd (K : Nat → Nat) (p q : Nat) : Nat := ab (K (41 + p)) (K (41 + q)) + ab (K (53 + p)) (K (53 + q))
theorem ab_le {a b n : Nat} (ha : a ≤ n) (hb : b ≤ n) : ab a b ≤ n := by unfold ab; split <;> omega
/-- as it must be -/
def WF (K : Nat → Nat) : Prop :=
  K 36 ≤ 999 ∧ K 37 ≤ 12 ∧ K 38 ≤ 4 ∧ K 39 ≤ 16 ∧ K 40 ≤ 16 ∧ (∀ k, k < 4 → K k ≤ 9999 ∧ K (65 + k) ≤ 999) ∧ (∀ p, p < 12 → K (41 + p) ≤ 99 ∧ K (53 + p) ≤ 99) ∧
  (∀ l, l < K 39 → K (20 + l) ≤ 99 ∧ K (69 + l) < K 37 ∧ K (85 + l) < K 37) ∧
  (∀ t, t < K 40 → K (4 + t) ≤ 10000 ∧ K (101 + 6 * t) < K 38 ∧ K (102 + 6 * t) ≤ 39600 ∧ K (104 + 6 * t) < K 37 ∧ K (105 + 6 * t) < K 37 ∧ K (106 + 6 * t) < 65536) ∧
  (∀ t l, t < K 40 → (K (106 + 6 * t)).testBit l = true → l < K 39 ∧ K (197 + 16 * t + l) < K 37 ∧ K (453 + 16 * t + l) < K 37)
theorem dd_le {K : Nat → Nat} (h : WF K) {p q : Nat} (hp : p < 12) (hq : q < 12) : dd K p q ≤ 198 := by
  obtain ⟨-, -, -, -, -, -, h7, -⟩ := h
  have := ab_le (h7 p hp).1 (h7 q hq).1
  have := ab_le (h7 p hp).2 (h7 q hq).2
  unfold dd
  omega
def est (K : Nat → Nat) (t : Nat) : Nat := if K (4 + t) = 0 then (K (65 + K (101 + 6 * t)) * K (102 + 6 * t) + 99) / 100 else K (4 + t) - 1
theorem est_le {K : Nat → Nat} (h : WF K) {t : Nat} (ht : t < K 40) : est K t ≤ 400000 := by
  obtain ⟨-, -, h3, -, -, h6, -, -, h9, -⟩ := h
  obtain ⟨a1, a2, a3, -⟩ := h9 t ht
  have hu := (h6 (K (101 + 6 * t)) (by omega)).2
  unfold est
  split
  · have : K (65 + K (101 + 6 * t)) * K (102 + 6 * t) ≤ 999 * 39600 := Nat.mul_le_mul hu a3
    omega
  · omega
/-- a load's part of a trip; w: weights, lk: the load whose ways it goes -/
def ptl (K w lk : Nat → Nat) (t l : Nat) : Nat := if (K (106 + 6 * t)).testBit (lk l) = true then w l * dd K (K (197 + 16 * t + lk l)) (K (453 + 16 * t + lk l)) else 0
/-- weights on paper -/
def WL (K w lk : Nat → Nat) (M : Nat) : Prop := M ≤ 16 ∧ ∀ l, l < M → w l ≤ 99 ∧ lk l < K 39
theorem ptl_le {K w lk : Nat → Nat} {M t l : Nat} (h : WF K) (hw : WL K w lk M) (ht : t < K 40) (hl : l < M) : ptl K w lk t l ≤ 19602 := by
  unfold ptl
  split
  next hb =>
    obtain ⟨-, a2, a3⟩ := h.2.2.2.2.2.2.2.2.2 t (lk l) ht hb
    have hd := dd_le h (p := K (197 + 16 * t + lk l)) (q := K (453 + 16 * t + lk l)) (by have := h.2.1; omega) (by have := h.2.1; omega)
    have := (hw.2 l hl).1
    calc _ ≤ 99 * 198 := Nat.mul_le_mul this hd
      _ = 19602 := rfl
  · omega
def pts (K w lk : Nat → Nat) (M t : Nat) : Nat := sm (ptl K w lk t) M
def idl (K w lk : Nat → Nat) (M t : Nat) : Bool := pts K w lk M t == 0
/-- closing -/
def tld (K : Nat → Nat) (k : Nat) : Nat := sm (fun t => if K (101 + 6 * t) = k ∧ ¬ K (4 + t) = 0 then K (4 + t) - 1 else 0) (K 40)
def mis (K : Nat → Nat) (k : Nat) : Nat := sm (fun t => if K (101 + 6 * t) = k ∧ K (4 + t) = 0 then est K t else 0) (K 40)
def kpt (K : Nat → Nat) (k : Nat) : Bool := decide (0 < mis K k) && decide (tld K k ≤ K k)
def sel (K : Nat → Nat) (k t : Nat) : Bool := decide (K (101 + 6 * t) = k) && !(kpt K k && decide (¬ K (4 + t) = 0))
/-- how many of the first t are chosen, which is the j-th -/
def rk (p : Nat → Bool) (t : Nat) : Nat := sm (fun u => if p u = true then 1 else 0) t
def en (p : Nat → Bool) : Nat → Nat → Nat
  | 0, _ => 0
  | N + 1, j => if p N = true ∧ rk p N = j then N else en p N j
theorem rk_le (p : Nat → Bool) (t : Nat) : rk p t ≤ t := by
  have : rk p t ≤ sm (fun _ => 1) t := sm_le (fun k _ => by split <;> omega)
  rw [sm_const] at this
  omega
theorem rk_lt {p : Nat → Bool} {t u : Nat} (h : t < u) (hp : p t = true) : rk p t < rk p u := by
  have : rk p (t + 1) ≤ rk p u := sm_mono h
  unfold rk at this ⊢
  rw [sm, if_pos hp] at this
  omega
theorem en_rk {p : Nat → Bool} : ∀ {N t : Nat}, t < N → p t = true → en p N (rk p t) = t
  | 0, _, h, _ => absurd h (Nat.not_lt_zero _)
  | N + 1, t, h, hp => by
    unfold en
    rcases Nat.lt_or_ge t N with z | z
    · rw [if_neg (by have := rk_lt z hp; omega)]
      exact en_rk z hp
    · have e : t = N := by omega
      subst e
      rw [if_pos ⟨hp, rfl⟩]
/-- each rank below the last is somebody's -/
theorem rk_ex {p : Nat → Bool} : ∀ {N j : Nat}, j < rk p N → ∃ t, t < N ∧ p t = true ∧ rk p t = j
  | 0, j, h => absurd h (Nat.not_lt_zero _)
  | N + 1, j, h => by
    rcases Nat.lt_or_ge j (rk p N) with z | z
    · obtain ⟨t, h1, h2, h3⟩ := rk_ex z
      exact ⟨t, by omega, h2, h3⟩
    · unfold rk at h z
      rw [sm] at h
      by_cases hp : p N = true
      · rw [if_pos hp] at h
        exact ⟨N, by omega, hp, by unfold rk; omega⟩
      · rw [if_neg hp] at h
        omega
theorem en_ok {p : Nat → Bool} {N j : Nat} (h : j < rk p N) : en p N j < N ∧ p (en p N j) = true ∧ rk p (en p N j) = j := by
  obtain ⟨t, h1, h2, h3⟩ := rk_ex h
  rw [← h3, en_rk h1 h2]
  exact ⟨h1, h2, rfl⟩
theorem en_inc {p : Nat → Bool} {N i j : Nat} (h : i < j) (hj : j < rk p N) : en p N i < en p N j := by
  obtain ⟨a1, a2, a3⟩ := en_ok (show i < rk p N by omega)
  obtain ⟨b1, b2, b3⟩ := en_ok hj
  rcases Nat.lt_or_ge (en p N i) (en p N j) with z | z
  · exact z
  · exfalso
    have : rk p (en p N j) ≤ rk p (en p N i) := sm_mono z
    omega
def bgt (K : Nat → Nat) (k : Nat) : Nat := if kpt K k = true then K k - tld K k else K k
/-- what a trip is closed to -/
def cld (K : Nat → Nat) (t : Nat) : Nat :=
  if sel K (K (101 + 6 * t)) t = true then pa (bgt K (K (101 + 6 * t))) (rk (sel K (K (101 + 6 * t))) (K 40)) (fun j => est K (en (sel K (K (101 + 6 * t))) (K 40) j)) (rk (sel K (K (101 + 6 * t))) t)
  else K (4 + t) - 1
def hasT (K : Nat → Nat) (k : Nat) : Bool := decide (0 < sm (fun t => if K (101 + 6 * t) = k then 1 else 0) (K 40))
/-- the nearest below, above, that is so -/
def bk (P : Nat → Bool) : Nat → Option Nat
  | 0 => none
  | t + 1 => if P t = true then some t else bk P t
def fw (P : Nat → Bool) : Nat → Nat → Option Nat
  | 0, _ => none
  | n + 1, u => if P u = true then some u else fw P n (u + 1)
def hr (K w lk : Nat → Nat) (M t : Nat) : Option Nat := match bk (fun u => decide (K (101 + 6 * u) = K (101 + 6 * t)) && !idl K w lk M u) t with
  | some u => some u
  | none => fw (fun u => decide (K (101 + 6 * u) = K (101 + 6 * t)) && !idl K w lk M u) (K 40 - (t + 1)) (t + 1)
/-- to which trip what t is closed to goes -/
def dst (K w lk : Nat → Nat) (M t : Nat) : Option Nat := if idl K w lk M t = true then hr K w lk M t else some t
def gvn (K w lk : Nat → Nat) (M t : Nat) : Nat := sm (fun u => if dst K w lk M u = some t then cld K u else 0) (K 40)
def opn (K w lk : Nat → Nat) (M : Nat) : Nat := sm (fun k => if hasT K k = true then 0 else K k) (K 38) + sm (fun u => if dst K w lk M u = none then cld K u else 0) (K 40)
def oft (K w lk : Nat → Nat) (M t l : Nat) : Nat := if idl K w lk M t = true then 0 else pa (gvn K w lk M t) M (ptl K w lk t) l
def omz (K w lk : Nat → Nat) (l : Nat) : Nat := w l * dd K (K (69 + lk l)) (K (85 + lk l))
def ofo (K w lk : Nat → Nat) (M l : Nat) : Nat := pa (opn K w lk M) M (omz K w lk) l
def shr (K w lk : Nat → Nat) (M l : Nat) : Nat := sm (fun t => oft K w lk M t l) (K 40) + ofo K w lk M l
/-- bounds -/
theorem gv_le {c : Nat} : ∀ (i : Nat) (s : gT) (k : Nat), (gv c i s).1 k ≤ s.1 k + i
  | 0, s, k => Nat.le_refl _
  | i + 1, s, k => by
    have := gv_le (c := c) i s k
    show (if k = _ then _ else _) ≤ _
    split <;> omega
theorem pa_le {n c : Nat} {m : Nat → Nat} {k : Nat} (hk : k < c) : pa n c m k ≤ 2 * n := by
  unfold pa
  split
  · split <;> omega
  next hS =>
    have h1 := gv_le (c := c) (lf n c m) (g0 n (sm m c) m) k
    have h2 : lf n c m ≤ n := by unfold lf; omega
    have h3 : (g0 n (sm m c) m).1 k ≤ n := by
      show n * m k / sm m c ≤ n
      apply Nat.div_le_of_le_mul
      rw [Nat.mul_comm]
      exact Nat.mul_le_mul_right _ (sm_one hk)
    omega
theorem cld_le {K : Nat → Nat} (h : WF K) {t : Nat} (ht : t < K 40) : cld K t ≤ 19998 := by
  obtain ⟨-, -, h3, -, -, h6, -, -, h9, -⟩ := h
  obtain ⟨a1, a2, -⟩ := h9 t ht
  unfold cld
  split
  next hs =>
    have hb : bgt K (K (101 + 6 * t)) ≤ 9999 := by
      have := (h6 (K (101 + 6 * t)) (by omega)).1
      unfold bgt
      split <;> omega
    have := pa_le (n := bgt K (K (101 + 6 * t))) (c := rk (sel K (K (101 + 6 * t))) (K 40)) (m := fun j => est K (en (sel K (K (101 + 6 * t))) (K 40) j)) (k := rk (sel K (K (101 + 6 * t))) t) (rk_lt ht hs)
    omega
  · omega
theorem sm_bnd {f : Nat → Nat} {n b : Nat} (h : ∀ k, k < n → f k ≤ b) : sm f n ≤ n * b := by
  have := sm_le (g := fun _ => b) h
  rwa [sm_const] at this
theorem gvn_le {K w lk : Nat → Nat} (h : WF K) (M t : Nat) : gvn K w lk M t ≤ 319968 := by
  have h5 := h.2.2.2.2.1
  have := sm_bnd (f := fun u => if dst K w lk M u = some t then cld K u else 0) (n := K 40) (b := 19998) (fun u hu => by
    have := cld_le h hu
    show (if _ then _ else _) ≤ _
    split <;> omega)
  have h2 : K 40 * 19998 ≤ 16 * 19998 := Nat.mul_le_mul_right _ h5
  unfold gvn
  omega
theorem opn_le {K w lk : Nat → Nat} (h : WF K) (M : Nat) : opn K w lk M ≤ 359964 := by
  have h5 := h.2.2.2.2.1
  have h3 := h.2.2.1
  have a1 := sm_bnd (f := fun u => if dst K w lk M u = none then cld K u else 0) (n := K 40) (b := 19998) (fun u hu => by
    have := cld_le h hu
    show (if _ then _ else _) ≤ _
    split <;> omega)
  have a2 := sm_bnd (f := fun k => if hasT K k = true then 0 else K k) (n := K 38) (b := 9999) (fun k hk => by
    have := (h.2.2.2.2.2.1 k (by omega)).1
    show (if _ then _ else _) ≤ _
    split <;> omega)
  have h2 : K 40 * 19998 ≤ 16 * 19998 := Nat.mul_le_mul_right _ h5
  have h4 : K 38 * 9999 ≤ 4 * 9999 := Nat.mul_le_mul_right _ h3
  unfold opn
  omega
/-- machine numbers -/
theorem abI {a b : Nat} (ha : a < 1000) (hb : b < 1000) : (if 0 ≤ nI a - nI b then nI a - nI b else 0 - (nI a - nI b)) = nI (ab a b) := by
  unfold ab
  rcases Nat.lt_or_ge b a with z | z
  · rw [nI_subN (by omega), if_pos (nI_pos' (by omega)), if_neg (by omega)]
  · rw [if_pos z]
    have e : nI a - nI b = 0 - nI (b - a) := by
      rw [← nI_subN z]
      simp
    rcases Nat.eq_or_lt_of_le z with y | y
    · subst y
      simp [nI_0]
    · rw [e, if_neg]
      · simp
      · rw [Int32.le_iff_toInt_le, Int32.toInt_sub, nI_toInt (by omega)]
        have : ((0 : Int32).toInt - ((b - a : Nat) : Int)).bmod (2 ^ 32) = - ((b - a : Nat) : Int) := by
          rw [show (0 : Int32).toInt = 0 from rfl, Int.zero_sub]
          apply Int.bmod_eq_of_le <;> omega
        rw [this]
        show ¬ (0 : Int) ≤ _
        omega
theorem abM {a b : Nat} (ha : a < 1000) (hb : b < 1000) : (if nI a - nI b < 0 then -(nI a - nI b) else nI a - nI b) = nI (ab a b) := by
  rw [← abI ha hb]
  by_cases h : nI a - nI b < 0
  · rw [if_pos h, if_neg (fun z => by
      rw [Int32.le_iff_toInt_le] at z
      rw [Int32.lt_iff_toInt_lt] at h
      omega)]
    simp
  · rw [if_neg h, if_pos (i32_nlt h)]
