/-! gaps, hubs: the mathematics -/
abbrev gG : Type := Nat × Nat × Nat
def bit (K : Nat → Nat) (t l : Nat) : Bool := (K (106 + 6 * t)).testBit l
/-- where a truck was last, before trip t -/
def lt (K : Nat → Nat) (k : Nat) : Nat → Option Nat
  | 0 => none
  | t + 1 => if K (101 + 6 * t) = k then some (K (105 + 6 * t)) else lt K k t
def gk (K : Nat → Nat) (k : Nat) : Nat → List gG
  | 0 => []
  | t + 1 => if K (101 + 6 * t) = k ∧ ¬ (lt K k t).getD (K (104 + 6 * t)) = K (104 + 6 * t) then gk K k t ++ [(k, (lt K k t).getD (K (104 + 6 * t)), K (104 + 6 * t))] else gk K k t
/-- where a load was off last, before trip t -/
def lo (K : Nat → Nat) (l : Nat) : Nat → Option Nat
  | 0 => none
  | t + 1 => if bit K t l = true then some (K (453 + 16 * t + l)) else lo K l t
def gl (K : Nat → Nat) (l : Nat) : Nat → List gG
  | 0 => []
  | t + 1 => if bit K t l = true ∧ ¬ (lo K l t).getD (K (69 + l)) = K (197 + 16 * t + l) then gl K l t ++ [(100 + l, (lo K l t).getD (K (69 + l)), K (197 + 16 * t + l))] else gl K l t
/-- all gaps of a load -/
def gla (K : Nat → Nat) (l : Nat) : List gG := if (lo K l (K 40)).getD (K (69 + l)) = K (85 + l) then gl K l (K 40) else gl K l (K 40) ++ [(100 + l, (lo K l (K 40)).getD (K (69 + l)), K (85 + l))]
def gks (K : Nat → Nat) : Nat → List gG
  | 0 => []
  | k + 1 => gks K k ++ gk K k (K 40)
def gls (K : Nat → Nat) : Nat → List gG
  | 0 => []
  | l + 1 => gls K l ++ gla K l
def gps (K : Nat → Nat) : List gG := gks K (K 38) ++ gls K (K 39)
def ch (K : Nat → Nat) (l p : Nat) : Nat → Nat
  | 0 => 0
  | t + 1 => ch K l p t + if bit K t l = true ∧ lo K l t = some p ∧ K (197 + 16 * t + l) = p then 1 else 0
/-- how long gaps are together -/
def gsm (K : Nat → Nat) : List gG → Nat
  | [] => 0
  | q :: r => dd K q.2.1 q.2.2 + gsm K r
theorem gsm_app (K : Nat → Nat) (a b : List gG) : gsm K (a ++ b) = gsm K a + gsm K b := by
  induction a with
  | nil => simp [gsm]
  | cons q r ih => simp only [List.cons_append, gsm, ih]; omega
theorem gk_len (K : Nat → Nat) (k : Nat) : ∀ t, (gk K k t).length ≤ sm (fun t => if K (101 + 6 * t) = k then 1 else 0) t
  | 0 => Nat.le_refl _
  | t + 1 => by
    have := gk_len K k t
    unfold gk
    rw [sm]
    by_cases z : K (101 + 6 * t) = k
    · rw [if_pos z]
      split
      · rw [List.length_append]; simp; omega
      · omega
    · rw [if_neg (fun y => z y.1), if_neg z]; omega
theorem gks_len (K : Nat → Nat) : ∀ k, (gks K k).length ≤ sm (fun t => if K (101 + 6 * t) < k then 1 else 0) (K 40)
  | 0 => by simp [gks]
  | k + 1 => by
    have h1 := gks_len K k
    have h2 := gk_len K k (K 40)
    have h3 : sm (fun t => if K (101 + 6 * t) < k + 1 then 1 else 0) (K 40) = sm (fun t => if K (101 + 6 * t) < k then 1 else 0) (K 40) + sm (fun t => if K (101 + 6 * t) = k then 1 else 0) (K 40) := by
      rw [← sm_add]
      apply sm_congr
      intro t _
      by_cases a : K (101 + 6 * t) < k
      · rw [if_pos a, if_pos (by omega), if_neg (by omega)]
      · rw [if_neg a]
        by_cases b : K (101 + 6 * t) = k
        · rw [if_pos b, if_pos (by omega)]
        · rw [if_neg b, if_neg (by omega)]
    unfold gks
    rw [List.length_append]
    omega
theorem gkk_len {K : Nat → Nat} (k : Nat) {t : Nat} (ht : t ≤ K 40) : (gks K k).length + (gk K k t).length ≤ K 40 := by
  have h1 := gks_len K k
  have h2 := gk_len K k t
  have h4 : sm (fun t => if K (101 + 6 * t) = k then 1 else 0) t ≤ sm (fun t => if K (101 + 6 * t) = k then 1 else 0) (K 40) := sm_mono ht
  have h3 : sm (fun t => if K (101 + 6 * t) < k then 1 else 0) (K 40) + sm (fun t => if K (101 + 6 * t) = k then 1 else 0) (K 40) ≤ K 40 := by
    rw [← sm_add]
    have := sm_bnd (f := fun t => (if K (101 + 6 * t) < k then 1 else 0) + if K (101 + 6 * t) = k then 1 else 0) (n := K 40) (b := 1) (fun t _ => by
      show (if _ then _ else _) + (if _ then _ else _) ≤ _
      by_cases a : K (101 + 6 * t) < k
      · rw [if_pos a, if_neg (by omega)]; omega
      · rw [if_neg a]; split <;> omega)
    omega
  omega
theorem gks_le (K : Nat → Nat) (k : Nat) : (gks K k).length ≤ K 40 := by
  have := gkk_len (K := K) k (t := 0) (Nat.zero_le _)
  omega
theorem gl_len (K : Nat → Nat) (l : Nat) : ∀ t, (gl K l t).length ≤ t
  | 0 => Nat.le_refl _
  | t + 1 => by
    have := gl_len K l t
    unfold gl
    split
    · rw [List.length_append]; simp; omega
    · omega
theorem gla_len (K : Nat → Nat) (l : Nat) : (gla K l).length ≤ K 40 + 1 := by
  have := gl_len K l (K 40)
  unfold gla
  split
  · omega
  · rw [List.length_append]; simp; omega
theorem gls_len (K : Nat → Nat) : ∀ n, (gls K n).length ≤ n * (K 40 + 1)
  | 0 => by simp [gls]
  | n + 1 => by
    have := gls_len K n
    have := gla_len K n
    unfold gls
    rw [List.length_append, Nat.add_mul, Nat.one_mul]
    omega
/-- owners -/
theorem gk_own {K : Nat → Nat} {k : Nat} : ∀ {t : Nat} {q : gG}, q ∈ gk K k t → q.1 = k
  | 0, _, h => by simp [gk] at h
  | t + 1, q, h => by
    unfold gk at h
    split at h
    · rcases List.mem_append.mp h with z | z
      · exact gk_own z
      · rw [List.mem_singleton.mp z]
    · exact gk_own h
theorem gks_own {K : Nat → Nat} : ∀ {k : Nat} {q : gG}, q ∈ gks K k → q.1 < k
  | 0, _, h => by simp [gks] at h
  | k + 1, q, h => by
    unfold gks at h
    rcases List.mem_append.mp h with z | z
    · have := gks_own z; omega
    · have := gk_own z; omega
theorem gl_own {K : Nat → Nat} {l : Nat} : ∀ {t : Nat} {q : gG}, q ∈ gl K l t → q.1 = 100 + l
  | 0, _, h => by simp [gl] at h
  | t + 1, q, h => by
    unfold gl at h
    split at h
    · rcases List.mem_append.mp h with z | z
      · exact gl_own z
      · rw [List.mem_singleton.mp z]
    · exact gl_own h
theorem gla_own {K : Nat → Nat} {l : Nat} {q : gG} (h : q ∈ gla K l) : q.1 = 100 + l := by
  unfold gla at h
  split at h
  · exact gl_own h
  · rcases List.mem_append.mp h with z | z
    · exact gl_own z
    · rw [List.mem_singleton.mp z]
theorem filter_all {a : List gG} {p : gG → Bool} (h : ∀ q ∈ a, p q = true) : a.filter p = a := List.filter_eq_self.mpr h
theorem filter_no {a : List gG} {p : gG → Bool} (h : ∀ q ∈ a, p q = false) : a.filter p = [] := List.filter_eq_nil_iff.mpr (fun q hq => by rw [h q hq]; decide)
theorem gls_fil {K : Nat → Nat} {l : Nat} : ∀ n, (gls K n).filter (fun q => q.1 == 100 + l) = if l < n then gla K l else []
  | 0 => by simp [gls]
  | n + 1 => by
    unfold gls
    rw [List.filter_append, gls_fil n]
    rcases Nat.lt_trichotomy l n with z | z | z
    · rw [if_pos z, if_pos (by omega), filter_no (a := gla K n) (fun q hq => by rw [gla_own hq]; simp; omega), List.append_nil]
    · subst z
      rw [if_neg (by omega), if_pos (by omega), filter_all (a := gla K l) (fun q hq => by rw [gla_own hq]; simp), List.nil_append]
    · rw [if_neg (by omega), if_neg (by omega), filter_no (a := gla K n) (fun q hq => by rw [gla_own hq]; simp; omega)]
      rfl
theorem gps_fil {K : Nat → Nat} (h : WF K) {l : Nat} (hl : l < K 39) : (gps K).filter (fun q => q.1 == 100 + l) = gla K l := by
  unfold gps
  have h4 := h.2.2.1
  rw [List.filter_append, filter_no (a := gks K (K 38)) (fun q hq => by have := gks_own hq; simp; omega), gls_fil, if_pos hl, List.nil_append]
/-- places -/
theorem lo_lt {K : Nat → Nat} (h : WF K) {l : Nat} : ∀ {t a : Nat}, t ≤ K 40 → lo K l t = some a → a < K 37
  | 0, _, _, h2 => by cases h2
  | t + 1, a, ht, h2 => by
    unfold lo at h2
    by_cases z : bit K t l = true
    · rw [if_pos z] at h2
      cases h2
      exact (h.2.2.2.2.2.2.2.2.2 t l (by omega) z).2.2
    · rw [if_neg z] at h2
      exact lo_lt h (by omega) h2
theorem lo_get {K : Nat → Nat} (h : WF K) {l t : Nat} (hl : l < K 39) (ht : t ≤ K 40) : (lo K l t).getD (K (69 + l)) < K 37 := by
  cases e : lo K l t with
  | none => exact (h.2.2.2.2.2.2.2.1 l hl).2.1
  | some a => exact lo_lt h ht e
theorem lt_lt {K : Nat → Nat} (h : WF K) {k : Nat} : ∀ {t a : Nat}, t ≤ K 40 → lt K k t = some a → a < K 37
  | 0, _, _, h2 => by cases h2
  | t + 1, a, ht, h2 => by
    unfold lt at h2
    by_cases z : K (101 + 6 * t) = k
    · rw [if_pos z] at h2
      cases h2
      exact (h.2.2.2.2.2.2.2.2.1 t (by omega)).2.2.2.2.1
    · rw [if_neg z] at h2
      exact lt_lt h (by omega) h2
theorem gla_pl {K : Nat → Nat} (h : WF K) {l : Nat} (hl : l < K 39) : ∀ q ∈ gla K l, q.2.1 < K 37 ∧ q.2.2 < K 37 := by
  have g : ∀ t, t ≤ K 40 → ∀ q ∈ gl K l t, q.2.1 < K 37 ∧ q.2.2 < K 37 := by
    intro t
    induction t with
    | zero => intro _ q hq; simp [gl] at hq
    | succ t ih =>
      intro ht q hq
      unfold gl at hq
      split at hq
      next hc =>
        rcases List.mem_append.mp hq with z | z
        · exact ih (by omega) q z
        · rw [List.mem_singleton.mp z]
          exact ⟨lo_get h hl (by omega), (h.2.2.2.2.2.2.2.2.2 t l (by omega) hc.1).2.1⟩
      · exact ih (by omega) q hq
  intro q hq
  unfold gla at hq
  split at hq
  · exact g _ (Nat.le_refl _) q hq
  · rcases List.mem_append.mp hq with z | z
    · exact g _ (Nat.le_refl _) q z
    · rw [List.mem_singleton.mp z]
      exact ⟨lo_get h hl (Nat.le_refl _), (h.2.2.2.2.2.2.2.1 l hl).2.2⟩
theorem gsm_le {K : Nat → Nat} (h : WF K) : ∀ {a : List gG}, (∀ q ∈ a, q.2.1 < K 37 ∧ q.2.2 < K 37) → gsm K a ≤ a.length * 198
  | [], _ => Nat.le_refl _
  | q :: r, hq => by
    have h12 := h.2.1
    obtain ⟨q1, q2⟩ := hq q List.mem_cons_self
    have := gsm_le h (a := r) (fun x hx => hq x (List.mem_cons_of_mem _ hx))
    have := dd_le h (p := q.2.1) (q := q.2.2) (by omega) (by omega)
    simp only [gsm, List.length_cons]
    omega
theorem ch_s (K : Nat → Nat) (l p t : Nat) : ch K l p (t + 1) = ch K l p t + if bit K t l = true ∧ lo K l t = some p ∧ K (197 + 16 * t + l) = p then 1 else 0 := rfl
theorem ch_n {K : Nat → Nat} {l p t : Nat} (h : ¬ (bit K t l = true ∧ lo K l t = some p ∧ K (197 + 16 * t + l) = p)) : ch K l p (t + 1) = ch K l p t := by rw [ch_s, if_neg h, Nat.add_zero]
theorem ch_p {K : Nat → Nat} {l p t : Nat} (h : bit K t l = true ∧ lo K l t = some p ∧ K (197 + 16 * t + l) = p) : ch K l p (t + 1) = ch K l p t + 1 := by rw [ch_s, if_pos h]
