/-! a token, by cases; what is kept -/
theorem stp_cs {s s' : RS} {k v : Nat} (h : stp s k v = .ok s') :
    (s.w = 0 ∧ ∃ k', (k' = 5 ∨ k' = 6 ∧ s.K 37 < 12 ∨ k' = 7 ∧ s.K 38 < 4 ∨ k' = 8 ∧ s.K 39 < 16 ∨ k' = 9 ∧ s.K 40 < 16) ∧ s' = begL s k') ∨
    (¬ s.w = 0 ∧ s.f.length < wnt s.w ∧ ∃ x, fld s k v = .ok x ∧ s' = push s x) ∨
    (s.w = 9 ∧ ¬ s.f.length < 3 ∧ ¬ s.sw = 0 ∧ k = 2 ∧ v < (if s.sw = 11 then s.K 37 else s.K 39) ∧ (s.sw = 12 → ¬ (s.K (106 + 6 * s.K 40)).testBit v = true) ∧ (s.sw = 13 → s.on.testBit v = true) ∧ s' = stpN s v) ∨
    (s.w = 9 ∧ ¬ s.f.length < 3 ∧ s.sw = 0 ∧ (k = 11 ∨ k = 12 ∨ k = 13) ∧ s' = swS s k) ∨
    (¬ s.w = 0 ∧ ¬ s.f.length < wnt s.w ∧ (s.w = 9 → s.sw = 0 ∧ s.on = 0) ∧ k = 3 ∧ s' = endL s) := by
  unfold stp at h
  by_cases w0 : s.w = 0
  · rw [if_pos w0] at h
    refine Or.inl ⟨w0, ?_⟩
    split at h
    · cases h
    · split at h
      · cases h; exact ⟨5, by omega, rfl⟩
      · split at h
        · split at h
          · cases h; exact ⟨6, by omega, rfl⟩
          · cases h
        · split at h
          · split at h
            · cases h; exact ⟨7, by omega, rfl⟩
            · cases h
          · split at h
            · split at h
              · cases h; exact ⟨8, by omega, rfl⟩
              · cases h
            · split at h
              · split at h
                · cases h; exact ⟨9, by omega, rfl⟩
                · cases h
              · cases h
  · rw [if_neg w0] at h
    refine Or.inr ?_
    by_cases hl : s.f.length < wnt s.w
    · rw [if_pos hl] at h
      refine Or.inl ⟨w0, hl, ?_⟩
      rcases hf : fld s k v with e | x
      · rw [hf] at h; cases h
      · rw [hf] at h; cases h; exact ⟨x, rfl, rfl⟩
    · rw [if_neg hl] at h
      refine Or.inr ?_
      by_cases w9 : s.w = 9
      · rw [if_pos w9] at h
        have hl3 : ¬ s.f.length < 3 := by rw [w9] at hl; exact hl
        by_cases sw0 : s.sw = 0
        · rw [if_neg (by omega)] at h
          split at h
          · rename_i hk
            cases h
            exact Or.inr (Or.inl ⟨w9, hl3, sw0, hk, rfl⟩)
          · split at h
            · rename_i hk
              split at h
              · rename_i ho
                cases h
                exact Or.inr (Or.inr ⟨w0, hl, fun _ => ⟨sw0, ho⟩, hk, rfl⟩)
              · cases h
            · cases h
        · rw [if_pos sw0] at h
          by_cases h1 : k = 2
          · rw [if_neg (by omega)] at h
            by_cases h2 : v < (if s.sw = 11 then s.K 37 else s.K 39)
            · rw [if_neg (fun z => z h2)] at h
              by_cases h3 : s.sw = 12 ∧ (s.K (106 + 6 * s.K 40)).testBit v = true
              · rw [if_pos h3] at h; cases h
              · rw [if_neg h3] at h
                by_cases h4 : s.sw = 13 ∧ ¬ s.on.testBit v = true
                · rw [if_pos h4] at h; cases h
                · rw [if_neg h4] at h
                  cases h
                  refine Or.inl ⟨w9, hl3, sw0, h1, h2, fun z y => h3 ⟨z, y⟩, fun z => ?_, rfl⟩
                  by_cases y : s.on.testBit v = true
                  · exact y
                  · exact absurd ⟨z, y⟩ h4
            · rw [if_pos h2] at h; cases h
          · rw [if_pos h1] at h; cases h
      · rw [if_neg w9] at h
        split at h
        · rename_i hk
          cases h
          exact Or.inr (Or.inr ⟨w0, hl, fun z => absurd z w9, hk, rfl⟩)
        · cases h
def FX (K : Nat → Nat) (w : Nat) (f : List Nat) : Prop := (w = 5 → f.getD 0 0 ≤ 999) ∧ (w = 6 → f.getD 0 0 ≤ 99 ∧ f.getD 1 0 ≤ 99) ∧ (w = 7 → f.getD 0 0 ≤ 999 ∧ f.getD 1 0 ≤ 9999) ∧ (w = 8 → f.getD 0 0 ≤ 99 ∧ (1 < f.length → f.getD 1 0 < K 37) ∧ (2 < f.length → f.getD 2 0 < K 37)) ∧ (w = 9 → (0 < f.length → f.getD 0 0 < K 38) ∧ f.getD 1 0 ≤ 10000)
def fB (K : Nat → Nat) (w n x : Nat) : Prop := (w = 5 → x ≤ 999) ∧ (w = 6 → x ≤ 99) ∧ (w = 7 → (n = 0 → x ≤ 999) ∧ x ≤ 9999) ∧ (w = 8 → (n = 0 → x ≤ 99) ∧ (1 ≤ n → x < K 37)) ∧ (w = 9 → (n = 0 → x < K 38) ∧ (n = 1 → x ≤ 10000) ∧ (2 ≤ n → x < K 37))
theorem numF_ok {lo hi k v x : Nat} (h : numF lo hi k v = .ok x) : k = 2 ∧ x = v ∧ lo ≤ x ∧ x ≤ hi := by
  unfold numF at h
  split at h
  · split at h
    · cases h; rename_i a b; exact ⟨a, rfl, b⟩
    · cases h
  · cases h
theorem tolF_ok {c k v x : Nat} (h : tolF c k v = .ok x) : k = 2 ∧ x = v ∧ x < c := by
  unfold tolF at h
  split at h
  · split at h
    · cases h; rename_i a b; exact ⟨a, rfl, b⟩
    · cases h
  · cases h
theorem fld_ok {s : RS} {k v x : Nat} (h : fld s k v = .ok x) : fB s.K s.w s.f.length x := by
  unfold fld at h
  unfold fB
  split at h
  · have := numF_ok h; omega
  · split at h
    · have := numF_ok h; omega
    · split at h
      · split at h
        · have := numF_ok h; omega
        · have := numF_ok h; omega
      · split at h
        · split at h
          · have := numF_ok h; omega
          · split at h
            · have := tolF_ok h; omega
            · split at h
              · cases h
              · have := tolF_ok h; omega
        · split at h
          · have := tolF_ok h; omega
          · split at h
            · split at h
              · cases h; omega
              · rcases hn : numF 0 9999 k v with e | y
                · rw [hn] at h; cases h
                · rw [hn] at h
                  have e : y + 1 = x := by injection h
                  have := numF_ok hn; omega
            · have := tolF_ok h; omega
theorem FX_push {K : Nat → Nat} {w : Nat} {f : List Nat} {x : Nat} (h : FX K w f) (hl : f.length < 3) (hx : fB K w f.length x) : FX K w (f ++ [x]) := by
  unfold FX at h ⊢
  unfold fB at hx
  rcases f with _ | ⟨a, _ | ⟨b, _ | ⟨c, f⟩⟩⟩
  · simp at h hx ⊢; omega
  · simp at h hx ⊢; omega
  · simp at h hx ⊢; omega
  · simp at hl; omega
def tc (s : RS) : Nat := if s.w = 9 ∧ s.f.length = 3 then s.K 40 + 1 else s.K 40
theorem tc_u {s : RS} (h : uw s) : tc s = s.K 40 + 1 := if_pos h
theorem tc_n {s : RS} (h : ¬ uw s) : tc s = s.K 40 := if_neg h
def wB (K : Nat → Nat) (w n : Nat) : Prop := (w = 0 ∨ w = 5 ∨ w = 6 ∨ w = 7 ∨ w = 8 ∨ w = 9) ∧ (w = 6 → K 37 < 12) ∧ (w = 7 → K 38 < 4) ∧ (w = 8 → K 39 < 16) ∧ (w = 9 → K 40 < 16) ∧ (¬ w = 0 → n ≤ wnt w)
theorem wnt_le (w : Nat) : wnt w ≤ 3 := by unfold wnt; split; omega; split <;> omega
def RA (s : RS) : Prop := BA s.K (tc s) s.sn ∧ wB s.K s.w s.f.length ∧ (¬ s.w = 0 → FX s.K s.w s.f) ∧ (uw s → ∀ l, s.on.testBit l = true → (s.K (106 + 6 * s.K 40)).testBit l = true) ∧ (¬ uw s → s.on = 0 ∧ s.sw = 0) ∧ (s.sw = 0 ∨ s.sw = 11 ∨ s.sw = 12 ∨ s.sw = 13)
theorem RA_0 : RA s00 := by
  have hz : ∀ k, (k < 4 ∨ 20 ≤ k) → K0 k = 0 := fun k hk => by rw [K0, if_neg (by omega)]
  refine ⟨?_, ?_, fun h => absurd rfl h, fun h => (by cases h.1), fun _ => ⟨rfl, rfl⟩, Or.inl rfl⟩
  · show BA K0 0 0
    unfold BA
    rw [hz 37 (by omega), hz 38 (by omega), hz 39 (by omega), hz 40 (by omega), hz 36 (by omega)]
    refine ⟨by omega, fun k hk => ?_, fun k hk => ?_, fun k hk => ?_, fun t ht => ?_, fun t ht => ?_, fun t ht h16 => ?_, fun k h1 h2 => ?_, fun x y hx hy => ?_⟩
    · rw [hz _ (by omega), hz _ (by omega)]; omega
    · rw [hz _ (by omega), hz _ (by omega)]; omega
    · omega
    · omega
    · omega
    · rw [hz _ (by omega), hz _ (by omega), hz _ (by omega)]; omega
    · rw [hz _ (by omega)]; omega
    · rw [hz _ (by omega)]; omega
  · exact ⟨Or.inl rfl, fun h => (by cases h), fun h => (by cases h), fun h => (by cases h), fun h => (by cases h), fun h => absurd rfl h⟩
theorem xor_sub {on w x l : Nat} (h : ∀ l, on.testBit l = true → w.testBit l = true) (hb : (on ^^^ 2 ^ x).testBit l = true) : (w ||| 2 ^ x).testBit l = true := by
  rw [Nat.testBit_xor, Nat.testBit_two_pow] at hb
  rw [Nat.testBit_or, Nat.testBit_two_pow]
  by_cases e : x = l
  · simp [e]
  · have hb' : on.testBit l = true := by simpa [e] using hb
    rw [h l hb']
    rfl
