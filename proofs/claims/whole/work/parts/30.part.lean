/-! parting a number by measures: the mathematics -/
def sm (f : Nat → Nat) : Nat → Nat
  | 0 => 0
  | n + 1 => sm f n + f n
theorem sm_congr {f g : Nat → Nat} : ∀ {n : Nat}, (∀ k, k < n → f k = g k) → sm f n = sm g n
  | 0, _ => rfl
  | n + 1, h => by rw [sm, sm, sm_congr (fun k hk => h k (by omega)), h n (by omega)]
theorem sm_le {f g : Nat → Nat} : ∀ {n : Nat}, (∀ k, k < n → f k ≤ g k) → sm f n ≤ sm g n
  | 0, _ => Nat.le_refl _
  | n + 1, h => Nat.add_le_add (sm_le (fun k hk => h k (by omega))) (h n (by omega))
theorem sm_add (f g : Nat → Nat) : ∀ n, sm (fun k => f k + g k) n = sm f n + sm g n
  | 0 => rfl
  | n + 1 => by rw [sm, sm, sm, sm_add f g n]; omega
theorem sm_mul (c : Nat) (f : Nat → Nat) : ∀ n, sm (fun k => c * f k) n = c * sm f n
  | 0 => rfl
  | n + 1 => by rw [sm, sm, sm_mul c f n, Nat.mul_add]
theorem sm_const (c : Nat) : ∀ n, sm (fun _ => c) n = n * c
  | 0 => by simp [sm]
  | n + 1 => by rw [sm, sm_const c n, Nat.add_mul, Nat.one_mul]
theorem sm_zero {f : Nat → Nat} {n : Nat} (h : ∀ k, k < n → f k = 0) : sm f n = 0 := by
  rw [sm_congr h, sm_const]; omega
theorem sm_one {f : Nat → Nat} : ∀ {n k : Nat}, k < n → f k ≤ sm f n
  | 0, _, h => absurd h (Nat.not_lt_zero _)
  | n + 1, k, h => by
    rcases Nat.lt_or_ge k n with z | z
    · have := sm_one (f := f) z; rw [sm]; omega
    · have : k = n := by omega
      subst this; rw [sm]; omega
theorem sm_mono {f : Nat → Nat} {a b : Nat} (h : a ≤ b) : sm f a ≤ sm f b := by
  induction b with
  | zero => have : a = 0 := by omega
            subst this; exact Nat.le_refl _
  | succ b ih =>
    rcases Nat.lt_or_ge a (b + 1) with z | z
    · have := ih (by omega); rw [sm]; omega
    · have : a = b + 1 := by omega
      subst this; exact Nat.le_refl _
/-- the sum changes at one place -/
theorem sm_set {f : Nat → Nat} {b v : Nat} : ∀ {n : Nat}, b < n → sm (fun k => if k = b then v else f k) n + f b = sm f n + v
  | 0, h => absurd h (Nat.not_lt_zero _)
  | n + 1, h => by
    rcases Nat.lt_or_ge b n with z | z
    · have := sm_set (f := f) (v := v) z
      rw [sm, sm, if_neg (show ¬ n = b by omega)]; omega
    · have : b = n := by omega
      subst this
      rw [sm, sm, if_pos rfl, sm_congr (g := f) (fun k hk => if_neg (show ¬ k = b by omega))]; omega
/-- the first of the greatest of places 0 to c -/
def am (r : Nat → Int) : Nat → Nat
  | 0 => 0
  | c + 1 => if r (am r c) < r (c + 1) then c + 1 else am r c
theorem am_le (r : Nat → Int) : ∀ c, am r c ≤ c
  | 0 => Nat.le_refl _
  | c + 1 => by
    have := am_le r c
    unfold am
    split <;> omega
theorem am_max (r : Nat → Int) : ∀ c k, k ≤ c → r k ≤ r (am r c)
  | 0, k, h => by have : k = 0 := by omega
                  subst this; exact Int.le_refl _
  | c + 1, k, h => by
    unfold am
    rcases Nat.lt_or_ge k (c + 1) with z | z
    · have := am_max r c k (by omega)
      split <;> omega
    · have e : k = c + 1 := by omega
      subst e
      split <;> omega
theorem am_first (r : Nat → Int) : ∀ c k, k < am r c → r k < r (am r c)
  | 0, k, h => absurd h (Nat.not_lt_zero _)
  | c + 1, k, h => by
    unfold am at h ⊢
    by_cases z : r (am r c) < r (c + 1)
    · rw [if_pos z] at h ⊢
      have := am_max r c k (by omega)
      omega
    · rw [if_neg z] at h ⊢
      exact am_first r c k h
theorem am_uniq {r : Nat → Int} {c b : Nat} (hb : b ≤ c) (h1 : ∀ k, k ≤ c → r k ≤ r b) (h2 : ∀ k, k < b → r k < r b) : am r c = b := by
  have a1 := am_le r c
  have a2 := am_max r c b hb
  have a3 := am_first r c
  rcases Nat.lt_trichotomy (am r c) b with z | z | z
  · have := h2 _ z; omega
  · exact z
  · have := a3 b z
    have := h1 _ a1
    omega
theorem am_congr {r s : Nat → Int} : ∀ {c}, (∀ k, k ≤ c → r k = s k) → am r c = am s c
  | 0, _ => rfl
  | c + 1, h => by
    have ih := am_congr (r := r) (s := s) (c := c) (fun k hk => h k (by omega))
    unfold am
    rw [ih, h (c + 1) (Nat.le_refl _), h (am s c) (by have := am_le s c; omega)]
abbrev gT : Type := (Nat → Nat) × (Nat → Int)
/-- one more to the greatest remainder -/
def g1 (c : Nat) (s : gT) : gT := (fun k => if k = am s.2 (c - 1) then s.1 k + 1 else s.1 k, fun k => if k = am s.2 (c - 1) then -1 else s.2 k)
def gv (c : Nat) : Nat → gT → gT
  | 0, s => s
  | i + 1, s => g1 c (gv c i s)
def g0 (n S : Nat) (m : Nat → Nat) : gT := (fun k => n * m k / S, fun k => ((n * m k % S : Nat) : Int))
def lf (n c : Nat) (m : Nat → Nat) : Nat := n - sm (fun k => n * m k / sm m c) c
/-- n parted by the measures m of places 0 to c - 1 -/
def pa (n c : Nat) (m : Nat → Nat) (k : Nat) : Nat := if sm m c = 0 then (if k = 0 then n else 0) else (gv c (lf n c m) (g0 n (sm m c) m)).1 k
theorem pa_sum {n c : Nat} {m : Nat → Nat} (h : 0 < sm m c) : sm (fun k => n * m k / sm m c) c ≤ n ∧ sm (fun k => n * m k % sm m c) c = sm m c * lf n c m := by
  have e1 : sm (fun k => n * m k) c = sm m c * sm (fun k => n * m k / sm m c) c + sm (fun k => n * m k % sm m c) c := by
    rw [← sm_mul, ← sm_add]
    exact sm_congr (fun k _ => (Nat.div_add_mod _ _).symm)
  rw [sm_mul] at e1
  have hle : sm (fun k => n * m k / sm m c) c ≤ n := by
    refine Nat.le_of_mul_le_mul_left (c := sm m c) ?_ h
    have : n * sm m c = sm m c * n := Nat.mul_comm _ _
    omega
  refine ⟨hle, ?_⟩
  unfold lf
  rw [Nat.mul_sub]
  have : n * sm m c = sm m c * n := Nat.mul_comm _ _
  omega
theorem pa_left {n c : Nat} {m : Nat → Nat} (h : 0 < sm m c) : lf n c m < c := by
  have h2 := (pa_sum (n := n) h).2
  have hc : 0 < c := by
    rcases Nat.eq_zero_or_pos c with z | z
    · subst z; simp [sm] at h
    · exact z
  have h3 : sm (fun k => n * m k % sm m c) c ≤ sm (fun _ => sm m c - 1) c := sm_le (fun k _ => by have := Nat.mod_lt (n * m k) h; omega)
  rw [sm_const] at h3
  rw [h2] at h3
  have h4 : c * (sm m c - 1) < sm m c * c := by
    rw [Nat.mul_comm (sm m c) c]
    exact Nat.mul_lt_mul_of_pos_left (by omega) hc
  exact Nat.lt_of_mul_lt_mul_left (a := sm m c) (Nat.lt_of_le_of_lt h3 h4)
/-- what is left of the remainders -/
def ph (r : Nat → Int) (c : Nat) : Nat := sm (fun k => (r k).toNat) c
theorem ph_step {s : gT} {c : Nat} (hc : 0 < c) : ph (g1 c s).2 c + (s.2 (am s.2 (c - 1))).toNat = ph s.2 c := by
  have hb : am s.2 (c - 1) < c := by have := am_le s.2 (c - 1); omega
  have := sm_set (f := fun k => (s.2 k).toNat) (b := am s.2 (c - 1)) (v := 0) hb
  unfold ph g1
  rw [← Nat.add_zero (sm (fun k => (s.2 k).toNat) c), ← this]
  congr 1
  apply sm_congr
  intro k _
  by_cases z : k = am s.2 (c - 1)
  · simp [z]
  · simp [z]
/-- remainders stay below S, and some is above 0 as long as one is left to give -/
theorem gv_inv {n c : Nat} {m : Nat → Nat} (h : 0 < sm m c) : ∀ i, i ≤ lf n c m → (∀ k, (gv c i (g0 n (sm m c) m)).2 k < sm m c ∧ -1 ≤ (gv c i (g0 n (sm m c) m)).2 k) ∧ sm m c * lf n c m ≤ ph (gv c i (g0 n (sm m c) m)).2 c + i * (sm m c - 1)
  | 0, _ => by
    refine ⟨fun k => ?_, ?_⟩
    · have := Nat.mod_lt (n * m k) h
      show ((n * m k % sm m c : Nat) : Int) < _ ∧ _ ≤ ((n * m k % sm m c : Nat) : Int)
      omega
    · rw [← (pa_sum (n := n) h).2]
      have : ph (g0 n (sm m c) m).2 c = sm (fun k => n * m k % sm m c) c := sm_congr (fun k _ => Int.toNat_natCast _)
      show _ ≤ ph (g0 n (sm m c) m).2 c + _
      omega
  | i + 1, hi => by
    obtain ⟨h1, h2⟩ := gv_inv (n := n) (m := m) h i (by omega)
    have hc : 0 < c := by have := pa_left (n := n) h; omega
    refine ⟨fun k => ?_, ?_⟩
    · have := h1 k
      show (if k = _ then (-1 : Int) else _) < _ ∧ _ ≤ (if k = _ then (-1 : Int) else _)
      split <;> omega
    · have h3 := ph_step (s := gv c i (g0 n (sm m c) m)) hc
      have h4 := h1 (am (gv c i (g0 n (sm m c) m)).2 (c - 1))
      show _ ≤ ph (g1 c (gv c i (g0 n (sm m c) m))).2 c + _
      rw [Nat.add_mul, Nat.one_mul]
      omega
theorem gv_pos {n c : Nat} {m : Nat → Nat} (h : 0 < sm m c) {i : Nat} (hi : i < lf n c m) : 0 < (gv c i (g0 n (sm m c) m)).2 (am (gv c i (g0 n (sm m c) m)).2 (c - 1)) := by
  obtain ⟨h1, h2⟩ := gv_inv (n := n) (m := m) h i (by omega)
  rcases Int.lt_or_le 0 ((gv c i (g0 n (sm m c) m)).2 (am (gv c i (g0 n (sm m c) m)).2 (c - 1))) with z | z
  · exact z
  · exfalso
    have h3 : ph (gv c i (g0 n (sm m c) m)).2 c = 0 := sm_zero (fun k hk => by
      have := am_max (gv c i (g0 n (sm m c) m)).2 (c - 1) k (by omega)
      omega)
    rw [h3] at h2
    have h4 : i * (sm m c - 1) < sm m c * lf n c m := by
      calc i * (sm m c - 1) ≤ i * sm m c := Nat.mul_le_mul_left _ (by omega)
        _ = sm m c * i := Nat.mul_comm _ _
        _ < sm m c * lf n c m := Nat.mul_lt_mul_of_pos_left hi h
    omega
/-- places that matter not: those without a measure may be left out -/
theorem sm_sel {N c : Nat} {m : Nat → Nat} {e : Nat → Nat} (hinc : ∀ i j, i < j → j < c → e i < e j) (hlt : ∀ j, j < c → e j < N) (hz : ∀ t, t < N → (∀ j, j < c → e j ≠ t) → m t = 0) : sm (fun j => m (e j)) c = sm m N := by
  induction N generalizing c with
  | zero =>
    have : c = 0 := by
      rcases Nat.eq_zero_or_pos c with z | z
      · exact z
      · exact absurd (hlt 0 z) (Nat.not_lt_zero _)
    subst this; rfl
  | succ N ih =>
    rcases Nat.eq_zero_or_pos c with z | z
    · subst z
      rw [sm_zero (f := m) (fun k hk => hz k hk (fun j hj => absurd hj (Nat.not_lt_zero _)))]
      rfl
    · obtain ⟨c, rfl⟩ : ∃ d, c = d + 1 := ⟨c - 1, by omega⟩
      by_cases hl : e c = N
      · rw [sm, sm, hl, ih (c := c) (fun i j h1 h2 => hinc i j h1 (by omega)) (fun j hj => by have := hinc j c hj (by omega); omega) (fun t ht hn => hz t (by omega) (fun j hj => by
          rcases Nat.lt_or_ge j c with y | y
          · exact hn j y
          · have : j = c := by omega
            subst this; omega))]
      · have hN : m N = 0 := hz N (by omega) (fun j hj hc => by
          rcases Nat.lt_or_ge j c with y | y
          · have := hinc j c y (by omega); have := hlt c (by omega); omega
          · have : j = c := by omega
            subst this; exact hl hc)
        show _ = sm m N + m N
        rw [ih (c := c + 1) hinc (fun j hj => by
          have h1 := hlt j hj
          rcases Nat.lt_or_ge (e j) N with y | y
          · exact y
          · exfalso
            have : e j = N := by omega
            rcases Nat.lt_or_ge j c with x | x
            · have := hinc j c x (by omega); have := hlt c (by omega); omega
            · have : j = c := by omega
              subst this; omega) (fun t ht hn => hz t (by omega) hn), hN]
        rfl
theorem pa_sel {n N c : Nat} {m : Nat → Nat} {e : Nat → Nat} (hinc : ∀ i j, i < j → j < c → e i < e j) (hlt : ∀ j, j < c → e j < N) (hz : ∀ t, t < N → (∀ j, j < c → e j ≠ t) → m t = 0) (hS : 0 < sm m N) :
    (∀ j, j < c → pa n c (fun j => m (e j)) j = pa n N m (e j)) ∧ ∀ t, t < N → (∀ j, j < c → e j ≠ t) → pa n N m t = 0 := by
  have e1 : sm (fun j => m (e j)) c = sm m N := sm_sel hinc hlt hz
  have hS' : 0 < sm (fun j => m (e j)) c := by rw [e1]; exact hS
  have e2 : lf n c (fun j => m (e j)) = lf n N m := by
    have h1 := (pa_sum (n := n) hS').2
    have h2 := (pa_sum (n := n) hS).2
    rw [e1] at h1
    have h3 : sm (fun k => n * m (e k) % sm m N) c = sm (fun k => n * m k % sm m N) N := sm_sel (m := fun k => n * m k % sm m N) hinc hlt (fun t ht hn => by rw [hz t ht hn]; simp)
    have : sm m N * lf n c (fun j => m (e j)) = sm m N * lf n N m := by rw [← h1, ← h2]; exact h3
    exact Nat.eq_of_mul_eq_mul_left hS this
  have key : ∀ i, i ≤ lf n N m → (∀ j, j < c → (gv c i (g0 n (sm m N) (fun j => m (e j)))).1 j = (gv N i (g0 n (sm m N) m)).1 (e j) ∧ (gv c i (g0 n (sm m N) (fun j => m (e j)))).2 j = (gv N i (g0 n (sm m N) m)).2 (e j)) ∧ ∀ t, t < N → (∀ j, j < c → e j ≠ t) → (gv N i (g0 n (sm m N) m)).1 t = 0 ∧ (gv N i (g0 n (sm m N) m)).2 t = 0 := by
    intro i
    induction i with
    | zero =>
      intro _
      refine ⟨fun j hj => ⟨rfl, rfl⟩, fun t ht hn => ?_⟩
      have := hz t ht hn
      show n * m t / _ = 0 ∧ ((n * m t % _ : Nat) : Int) = 0
      rw [this]; simp
    | succ i ih =>
      intro hi
      obtain ⟨h1, h2⟩ := ih (by omega)
      have hp := gv_pos (n := n) hS (i := i) (by omega)
      have hN : 0 < N := by have := pa_left (n := n) hS; omega
      have hb := am_le (gv N i (g0 n (sm m N) m)).2 (N - 1)
      -- the greatest is one of the places that matter
      obtain ⟨b, hbc, hbe⟩ : ∃ b, b < c ∧ e b = am (gv N i (g0 n (sm m N) m)).2 (N - 1) := by
        rcases Classical.em (∃ b, b < c ∧ e b = am (gv N i (g0 n (sm m N) m)).2 (N - 1)) with z | z
        · exact z
        · exfalso
          have := (h2 (am (gv N i (g0 n (sm m N) m)).2 (N - 1)) (by omega) (fun j hj hh => z ⟨j, hj, hh⟩)).2
          omega
      have hab : am (gv c i (g0 n (sm m N) (fun j => m (e j)))).2 (c - 1) = b := by
        refine am_uniq (by omega) (fun k hk => ?_) (fun k hk => ?_)
        · rw [(h1 k (by omega)).2, (h1 b hbc).2, hbe]
          exact am_max _ _ _ (by have := hlt k (by omega); omega)
        · rw [(h1 k (by omega)).2, (h1 b hbc).2, hbe]
          refine am_first _ _ _ ?_
          rw [← hbe]
          exact hinc k b hk hbc
      have einj : ∀ j, j < c → (e j = e b ↔ j = b) := fun j hj => ⟨fun h => by
        rcases Nat.lt_trichotomy j b with z | z | z
        · have := hinc j b z hbc; omega
        · exact z
        · have := hinc b j z hj; omega, fun h => by rw [h]⟩
      refine ⟨fun j hj => ?_, fun t ht hn => ?_⟩
      · show (if j = _ then _ else _) = (if e j = _ then _ else _) ∧ (if j = _ then _ else _) = (if e j = _ then _ else _)
        rw [hab, ← hbe]
        by_cases z : j = b
        · subst z
          rw [if_pos rfl, if_pos rfl, if_pos rfl, if_pos rfl, (h1 j hj).1]
          exact ⟨rfl, rfl⟩
        · have z2 : ¬ e j = e b := fun q => z ((einj j hj).mp q)
          rw [if_neg z, if_neg z2, if_neg z, if_neg z2]
          exact h1 j hj
      · show (if t = _ then _ else _) = 0 ∧ (if t = _ then _ else _) = 0
        have : ¬ t = am (gv N i (g0 n (sm m N) m)).2 (N - 1) := by rw [← hbe]; exact fun q => hn b hbc q.symm
        rw [if_neg this, if_neg this]
        exact h2 t ht hn
  obtain ⟨k1, k2⟩ := key _ (Nat.le_refl _)
  refine ⟨fun j hj => ?_, fun t ht hn => ?_⟩
  · unfold pa
    rw [e1, if_neg (by omega), if_neg (by omega), e2]
    exact (k1 j hj).1
  · unfold pa
    rw [if_neg (by omega)]
    exact (k2 t ht hn).1
