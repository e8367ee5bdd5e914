/-! numbers of the machine -/
theorem lN_int {n : Nat} (h : n < 2 ^ 63) : (lN n).toInt = (n : Int) := Int64.toInt_ofNat_of_lt h
theorem lN_leI {a b : Nat} (ha : a < 2 ^ 63) (hb : b < 2 ^ 63) : lN a ≤ lN b ↔ a ≤ b := by
  rw [Int64.le_iff_toInt_le, lN_int ha, lN_int hb]; omega
theorem lN_ltI {a b : Nat} (ha : a < 2 ^ 63) (hb : b < 2 ^ 63) : lN a < lN b ↔ a < b := by
  rw [Int64.lt_iff_toInt_lt, lN_int ha, lN_int hb]; omega
theorem lN_eqI {a b : Nat} (ha : a < 2 ^ 63) (hb : b < 2 ^ 63) : lN a = lN b ↔ a = b := by
  rw [← Int64.toInt_inj, lN_int ha, lN_int hb]; omega
theorem lN_div {a b : Nat} (ha : a < 2 ^ 63) (hb : b < 2 ^ 63) : lN a / lN b = lN (a / b) := by
  apply Int64.toInt_inj.mp
  have h1 : a / b < 2 ^ 63 := Nat.lt_of_le_of_lt (Nat.div_le_self _ _) ha
  rw [Int64.toInt_div, lN_int ha, lN_int hb, lN_int h1]
  have h2 : ((a : Int).tdiv (b : Int)) = ((a / b : Nat) : Int) := by
    rw [Int.tdiv_eq_ediv_of_nonneg (by omega)]; exact (Int.natCast_ediv a b).symm
  rw [h2]
  clear h2
  generalize a / b = q at h1 ⊢
  apply Int.bmod_eq_of_le <;> omega
theorem lN_rem {a b : Nat} (ha : a < 2 ^ 63) (hb : b < 2 ^ 63) : lN a - lN a / lN b * lN b = lN (a % b) := by
  rw [lN_div ha hb, lN_mul, lN_sub (Nat.div_mul_le_self a b)]
  congr 1
  have := Nat.div_add_mod a b
  rw [Nat.mul_comm] at this
  omega
theorem nI_subN {a b : Nat} (h : b ≤ a) : nI a - nI b = nI (a - b) := by
  have e : nI a = nI (a - b) + nI b := by rw [nI_add]; congr 1; omega
  rw [e]
  exact Int32.add_sub_cancel _ _
theorem nI_divN {a b : Nat} (ha : a < 2 ^ 31) (hb : b < 2 ^ 31) : nI a / nI b = nI (a / b) := by
  apply Int32.toInt_inj.mp
  have h1 : a / b < 2 ^ 31 := Nat.lt_of_le_of_lt (Nat.div_le_self _ _) ha
  rw [Int32.toInt_div, nI_toInt ha, nI_toInt hb, nI_toInt h1]
  have h2 : ((a : Int).tdiv (b : Int)) = ((a / b : Nat) : Int) := by
    rw [Int.tdiv_eq_ediv_of_nonneg (by omega)]; exact (Int.natCast_ediv a b).symm
  rw [h2]
  clear h2
  generalize a / b = q at h1 ⊢
  apply Int.bmod_eq_of_le <;> omega
theorem nI_mulN (a b : Nat) : nI a * nI b = nI (a * b) := (Int32.ofNat_mul a b).symm
/-- a long with a sign -/
def lI (z : Int) : Int64 := Int64.ofInt z
theorem lI_nat (n : Nat) : lI (n : Int) = lN n := by
  apply Int64.toBitVec_inj.mp
  simp [lI, lN]
theorem lI_toInt {z : Int} (h1 : -9223372036854775808 ≤ z) (h2 : z < 9223372036854775808) : (lI z).toInt = z := by
  unfold lI
  rw [Int64.toInt_ofInt]
  show Int.bmod z 18446744073709551616 = z
  apply Int.bmod_eq_of_le <;> omega
theorem lI_ltI {a b : Int} (h1 : -9223372036854775808 ≤ a) (h2 : a < 9223372036854775808) (h3 : -9223372036854775808 ≤ b) (h4 : b < 9223372036854775808) : lI a < lI b ↔ a < b := by
  rw [Int64.lt_iff_toInt_lt, lI_toInt h1 h2, lI_toInt h3 h4]
theorem lI_m1 : lI (-1) = -1 := rfl
theorem i32_nle {a b : Int32} (h : ¬ a ≤ b) : b < a := Int32.not_le.mp h
theorem i32_nlt {a b : Int32} (h : ¬ a < b) : b ≤ a := by
  rw [Int32.lt_iff_toInt_lt] at h; rw [Int32.le_iff_toInt_le]; omega
/-- frames of memories -/
def pm_fr (S : Nat → Nat → Prop) (m0 m : pm_M) : Prop := ∀ t i, ¬ S t i → m.1 t i = m0.1 t i ∧ m.2.1 t i = m0.2.1 t i ∧ m.2.2 t i = m0.2.2 t i
theorem pm_fr.rf {S : Nat → Nat → Prop} {m : pm_M} : pm_fr S m m := fun _ _ _ => ⟨rfl, rfl, rfl⟩
theorem pm_fr.tr {S : Nat → Nat → Prop} {m0 m1 m2 : pm_M} (h1 : pm_fr S m0 m1) (h2 : pm_fr S m1 m2) : pm_fr S m0 m2 := fun t i h => ⟨(h2 t i h).1.trans (h1 t i h).1, (h2 t i h).2.1.trans (h1 t i h).2.1, (h2 t i h).2.2.trans (h1 t i h).2.2⟩
theorem pm_fr.mono {S S' : Nat → Nat → Prop} {m0 m : pm_M} (h : pm_fr S m0 m) (hS : ∀ t i, S t i → S' t i) : pm_fr S' m0 m := fun t i hn => h t i (fun z => hn (hS t i z))
theorem pm_fr.uI {S : Nat → Nat → Prop} {m0 m : pm_M} {t i k : Nat} {x : Int32} (h : pm_fr S m0 m) (hs : S t i) : pm_fr S m0 (pm_uI m t i k x) := fun t' i' hn => by
  obtain ⟨a, b, c⟩ := pm_but_I m t i k x t' i' (fun z => hn (by rw [z.1, z.2]; exact hs))
  exact ⟨a.trans (h t' i' hn).1, b.trans (h t' i' hn).2.1, c.trans (h t' i' hn).2.2⟩
theorem pm_fr.uJ {S : Nat → Nat → Prop} {m0 m : pm_M} {t i k : Nat} {x : Int64} (h : pm_fr S m0 m) (hs : S t i) : pm_fr S m0 (pm_uJ m t i k x) := fun t' i' hn => by
  obtain ⟨a, b, c⟩ := pm_but_J m t i k x t' i' (fun z => hn (by rw [z.1, z.2]; exact hs))
  exact ⟨a.trans (h t' i' hn).1, b.trans (h t' i' hn).2.1, c.trans (h t' i' hn).2.2⟩
theorem pm_fr.uP {S : Nat → Nat → Prop} {m0 m : pm_M} {t i k : Nat} {x : Option Nat} (h : pm_fr S m0 m) (hs : S t i) : pm_fr S m0 (pm_uP m t i k x) := fun t' i' hn => by
  obtain ⟨a, b, c⟩ := pm_but_P m t i k x t' i' (fun z => hn (by rw [z.1, z.2]; exact hs))
  exact ⟨a.trans (h t' i' hn).1, b.trans (h t' i' hn).2.1, c.trans (h t' i' hn).2.2⟩
theorem pm_gI (m : pm_M) (t i k : Nat) (x : Int32) (t' i' k' : Nat) : (pm_uI m t i k x).1 t' i' k' = if t' = t ∧ i' = i ∧ k' = k then x else m.1 t' i' k' := rfl
theorem pm_gJ (m : pm_M) (t i k : Nat) (x : Int64) (t' i' k' : Nat) : (pm_uJ m t i k x).2.1 t' i' k' = if t' = t ∧ i' = i ∧ k' = k then x else m.2.1 t' i' k' := rfl
theorem pm_gIJ (m : pm_M) (t i k : Nat) (x : Int64) : (pm_uJ m t i k x).1 = m.1 := rfl
theorem pm_gJI (m : pm_M) (t i k : Nat) (x : Int32) : (pm_uI m t i k x).2.1 = m.2.1 := rfl
theorem pm_gPI (m : pm_M) (t i k : Nat) (x : Int32) : (pm_uI m t i k x).2.2 = m.2.2 := rfl
theorem pm_gPJ (m : pm_M) (t i k : Nat) (x : Int64) : (pm_uJ m t i k x).2.2 = m.2.2 := rfl
theorem pm_gIP (m : pm_M) (t i k : Nat) (x : Option Nat) : (pm_uP m t i k x).1 = m.1 := rfl
theorem pm_gJP (m : pm_M) (t i k : Nat) (x : Option Nat) : (pm_uP m t i k x).2.1 = m.2.1 := rfl
theorem pm_gP (m : pm_M) (t i k : Nat) (x : Option Nat) (t' i' k' : Nat) : (pm_uP m t i k x).2.2 t' i' k' = if t' = t ∧ i' = i ∧ k' = k then x else m.2.2 t' i' k' := rfl
theorem nI_dec (j : Nat) : nI (j + 1) + Int32.ofInt (-1) = nI j := by
  rw [← nI_pred j]
  exact (Int32.sub_eq_add_neg (nI (j + 1)) 1).symm
theorem pm_gIn {m : pm_M} {t i k : Nat} {x : Int32} {t' i' k' : Nat} (h : ¬ (t' = t ∧ i' = i ∧ k' = k)) : (pm_uI m t i k x).1 t' i' k' = m.1 t' i' k' := if_neg h
theorem pm_gIe {m : pm_M} {t i k : Nat} {x : Int32} : (pm_uI m t i k x).1 t i k = x := if_pos ⟨rfl, rfl, rfl⟩
theorem pm_gJn {m : pm_M} {t i k : Nat} {x : Int64} {t' i' k' : Nat} (h : ¬ (t' = t ∧ i' = i ∧ k' = k)) : (pm_uJ m t i k x).2.1 t' i' k' = m.2.1 t' i' k' := if_neg h
theorem pm_gJe {m : pm_M} {t i k : Nat} {x : Int64} : (pm_uJ m t i k x).2.1 t i k = x := if_pos ⟨rfl, rfl, rfl⟩
