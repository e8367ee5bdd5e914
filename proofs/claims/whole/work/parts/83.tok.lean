/-! tokens -/
def isL (b : Nat) : Bool := decide (97 ≤ b) && decide (b ≤ 122)
def isD (b : Nat) : Bool := decide (48 ≤ b) && decide (b ≤ 57)
def isB (b : Nat) : Bool := decide (b = 32) || decide (b = 10)
def skf (B : Nat → Nat) (L : Nat) : Nat → Nat → Nat
  | 0, p => p
  | n + 1, p => if p < L ∧ isB (B p) = true then skf B L n (p + 1) else p
/-- the first place from p on that holds no blank -/
def sk (B : Nat → Nat) (L p : Nat) : Nat := skf B L (L - p) p
theorem sk_s {B : Nat → Nat} {L p : Nat} (h : p < L) (hb : isB (B p) = true) : sk B L p = sk B L (p + 1) := by
  unfold sk
  rw [show L - p = (L - (p + 1)) + 1 by omega, skf, if_pos ⟨h, hb⟩]
theorem sk_e {B : Nat → Nat} {L p : Nat} (h : ¬ (p < L ∧ isB (B p) = true)) : sk B L p = p := by
  unfold sk
  rcases hn : L - p with _ | n
  · rfl
  · rw [skf, if_neg h]
theorem sk_ge {B : Nat → Nat} {L : Nat} : ∀ {n p : Nat}, p + n = L → p ≤ sk B L p ∧ sk B L p ≤ L
  | 0, p, h => by rw [sk_e (by omega)]; omega
  | n + 1, p, h => by
    by_cases z : isB (B p) = true
    · rw [sk_s (by omega) z]
      have := sk_ge (B := B) (n := n) (p := p + 1) (L := L) (by omega)
      omega
    · rw [sk_e (fun y => z y.2)]; omega
theorem sk_bd {B : Nat → Nat} {L p : Nat} (h : p ≤ L) : p ≤ sk B L p ∧ sk B L p ≤ L := sk_ge (n := L - p) (by omega)
theorem sk_nb {B : Nat → Nat} {L : Nat} : ∀ {n p : Nat}, p + n = L → sk B L p < L → ¬ isB (B (sk B L p)) = true
  | 0, p, h, hl => by rw [sk_e (by omega)] at hl; omega
  | n + 1, p, h, hl => by
    by_cases z : isB (B p) = true
    · rw [sk_s (by omega) z] at hl ⊢
      exact sk_nb (n := n) (by omega) hl
    · rw [sk_e (fun y => z y.2)]; exact z
/-- blanks to T and to a bound below it -/
theorem sk_L {B : Nat → Nat} {L T : Nat} (hL : L ≤ T) : ∀ {n p : Nat}, p + n = T → (sk B T p < L → sk B L p = sk B T p) ∧ (L ≤ sk B T p → L ≤ sk B L p)
  | 0, p, h => by
    rw [sk_e (B := B) (L := T) (by omega), sk_e (B := B) (L := L) (by omega)]
    exact ⟨fun _ => rfl, fun h => h⟩
  | n + 1, p, h => by
    by_cases z : p < L ∧ isB (B p) = true
    · rw [sk_s (L := T) (by omega) z.2, sk_s (L := L) z.1 z.2]
      exact sk_L hL (n := n) (by omega)
    · rw [sk_e (L := L) z]
      have hb := sk_bd (B := B) (L := T) (p := p) (by omega)
      by_cases y : p < L
      · rw [sk_e (L := T) (fun w => z ⟨y, w.2⟩)]
        exact ⟨fun _ => rfl, fun h => h⟩
      · exact ⟨fun h => by omega, fun _ => by omega⟩
def rnf (B : Nat → Nat) (T : Nat) : Nat → Nat → Nat
  | 0, p => p
  | n + 1, p => if p < T ∧ (isL (B p) || isD (B p)) = true then rnf B T n (p + 1) else p
/-- where the letters and digits from p on end -/
def rn (B : Nat → Nat) (T p : Nat) : Nat := rnf B T (T - p) p
theorem rn_s {B : Nat → Nat} {T p : Nat} (h : p < T) (hb : (isL (B p) || isD (B p)) = true) : rn B T p = rn B T (p + 1) := by
  unfold rn
  rw [show T - p = (T - (p + 1)) + 1 by omega, rnf, if_pos ⟨h, hb⟩]
theorem rn_e {B : Nat → Nat} {T p : Nat} (h : ¬ (p < T ∧ (isL (B p) || isD (B p)) = true)) : rn B T p = p := by
  unfold rn
  rcases hn : T - p with _ | n
  · rfl
  · rw [rnf, if_neg h]
theorem rn_ge {B : Nat → Nat} {T : Nat} : ∀ {n p : Nat}, p + n = T → p ≤ rn B T p ∧ rn B T p ≤ T
  | 0, p, h => by rw [rn_e (by omega)]; omega
  | n + 1, p, h => by
    by_cases z : (isL (B p) || isD (B p)) = true
    · rw [rn_s (by omega) z]
      have := rn_ge (B := B) (n := n) (p := p + 1) (T := T) (by omega)
      omega
    · rw [rn_e (fun y => z y.2)]; omega
/-- of the first n from q on: all letters, none a letter, their number, their word -/
def aL (B : Nat → Nat) (q : Nat) : Nat → Bool
  | 0 => true
  | n + 1 => aL B q n && isL (B (q + n))
def aN (B : Nat → Nat) (q : Nat) : Nat → Bool
  | 0 => true
  | n + 1 => aN B q n && !isL (B (q + n))
def nv (B : Nat → Nat) (q : Nat) : Nat → Nat
  | 0 => 0
  | n + 1 => if n < 4 then 10 * nv B q n + (B (q + n) - 48) else nv B q n
def wc (B : Nat → Nat) (q : Nat) : Nat → Nat
  | 0 => 0
  | n + 1 => if n < 6 then 27 * wc B q n + (B (q + n) - 96) else wc B q n
def wk (B : Nat → Nat) (q n : Nat) : Nat :=
  if n = 2 ∧ B q = 116 ∧ B (q + 1) = 111 then 11 else if n = 2 ∧ B q = 111 ∧ B (q + 1) = 110 then 12
  else if n = 3 ∧ B q = 111 ∧ B (q + 1) = 102 ∧ B (q + 2) = 102 then 13
  else if n = 4 ∧ B q = 110 ∧ B (q + 1) = 111 ∧ B (q + 2) = 110 ∧ B (q + 3) = 101 then 10
  else if n = 4 ∧ B q = 100 ∧ B (q + 1) = 101 ∧ B (q + 2) = 115 ∧ B (q + 3) = 107 then 5
  else if n = 5 ∧ B q = 112 ∧ B (q + 1) = 108 ∧ B (q + 2) = 97 ∧ B (q + 3) = 99 ∧ B (q + 4) = 101 then 6
  else if n = 5 ∧ B q = 116 ∧ B (q + 1) = 114 ∧ B (q + 2) = 117 ∧ B (q + 3) = 99 ∧ B (q + 4) = 107 then 7
  else if n = 4 ∧ B q = 108 ∧ B (q + 1) = 111 ∧ B (q + 2) = 97 ∧ B (q + 3) = 100 then 8
  else if n = 4 ∧ B q = 116 ∧ B (q + 1) = 114 ∧ B (q + 2) = 105 ∧ B (q + 3) = 112 then 9 else 4
/-- the token from p on: where it begins, its kind, its number, where it ends -/
def tQ (B : Nat → Nat) (T p : Nat) : Nat := sk B (min T 800) p
def tS (B : Nat → Nat) (T p : Nat) : Nat := min (tQ B T p) (min T 800)
def tK (B : Nat → Nat) (T p : Nat) : Nat :=
  if min T 800 ≤ tQ B T p then 0 else if B (tQ B T p) = 59 then 3 else
  if rn B T (tQ B T p) = tQ B T p then 1 else
  if aL B (tQ B T p) (rn B T (tQ B T p) - tQ B T p) = true then wk B (tQ B T p) (rn B T (tQ B T p) - tQ B T p) else
  if aN B (tQ B T p) (rn B T (tQ B T p) - tQ B T p) = true ∧ rn B T (tQ B T p) - tQ B T p ≤ 4 then 2 else 1
def tV (B : Nat → Nat) (T p : Nat) : Nat := nv B (tQ B T p) (rn B T (tQ B T p) - tQ B T p)
def tN (B : Nat → Nat) (T p : Nat) : Nat := if B (tQ B T p) = 59 then tQ B T p + 1 else rn B T (tQ B T p)
def msort (k T : Nat) : Nat := if k = 0 then (if T ≤ 800 then 0 else 1) else if k = 1 then 1 else if k = 2 then 3 else if k = 3 then 4 else 2
theorem wk_ge (B : Nat → Nat) (q n : Nat) : 4 ≤ wk B q n := by
  unfold wk
  repeat' split
  all_goals omega
/-- what the reference holds of its token -/
def mtk (mem : pm_M) (B : Nat → Nat) (T p : Nat) : Prop :=
  mem.1 10009909 0 6 = nI (msort (tK B T p) T) ∧ mem.1 10009909 0 5 = nI (tS B T p) ∧ (2 ≤ tK B T p → mem.1 10009909 0 4 = nI (tN B T p)) ∧ (tK B T p = 2 → mem.1 10009909 0 7 = nI (tV B T p)) ∧
  (4 ≤ tK B T p → mem.2.1 10009909 0 10 = lN (wc B (tQ B T p) (rn B T (tQ B T p) - tQ B T p)))
section TOK
variable {mem mem0 : pm_M} {T : Nat} {B : Nat → Nat}
set_option maxRecDepth 100000 in
theorem sp_X9_isLetter {b : Nat} (hb : b < 256) : Cd yX9_isLetter cX9_isLetter 1 (some .boolean) 0 0 [pI (nI b)] mem (some (pI (if isL b = true then 1 else 0))) mem := by
  have e1 : nI b < 97 ↔ b < 97 := nI_ltI (b := 97) (by omega) (by omega)
  have e2 : 122 < nI b ↔ 122 < b := nI_ltI (a := 122) (by omega) (by omega)
  refine Cl.of (own := RX9) rfl rfl (Nat.le_of_ble_eq_true rfl) rfl ?_; show PR _ _ _ _ _ _ [some _] _ _ _
  refine pr_iload_n 1 dX9_isLetter_0 rfl rfl rfl ?_
  refine pr_bipush (97) 3 dX9_isLetter_1 (by decide) rfl ?_
  refine pr_icmp_lt 16 6 dX9_isLetter_3 rfl rfl (fun c_3 => ?_) (fun c_3 => ?_)
  · rw [e1] at c_3
    refine pr_iconst (0) 17 dX9_isLetter_16 (by decide) rfl ?_
    refine pr_zreturn dX9_isLetter_17 rfl (by first | exact Or.inl rfl | exact Or.inr rfl) ?_
    exact ⟨by rw [if_neg (by simp [isL]; omega)], rfl⟩
  · rw [e1] at c_3
    refine pr_iload_n 7 dX9_isLetter_6 rfl rfl rfl ?_
    refine pr_bipush (122) 9 dX9_isLetter_7 (by decide) rfl ?_
    refine pr_icmp_gt 16 12 dX9_isLetter_9 rfl rfl (fun c_9 => ?_) (fun c_9 => ?_)
    · rw [e2] at c_9
      refine pr_iconst (0) 17 dX9_isLetter_16 (by decide) rfl ?_
      refine pr_zreturn dX9_isLetter_17 rfl (by first | exact Or.inl rfl | exact Or.inr rfl) ?_
      exact ⟨by rw [if_neg (by simp [isL]; omega)], rfl⟩
    · rw [e2] at c_9
      refine pr_iconst (1) 13 dX9_isLetter_12 (by decide) rfl ?_
      refine pr_goto 17 dX9_isLetter_13 rfl ?_
      refine pr_zreturn dX9_isLetter_17 rfl (by first | exact Or.inl rfl | exact Or.inr rfl) ?_
      exact ⟨by rw [if_pos (by simp [isL]; omega)], rfl⟩
set_option maxRecDepth 100000 in
theorem sp_X9_isDigit {b : Nat} (hb : b < 256) : Cd yX9_isDigit cX9_isDigit 1 (some .boolean) 0 0 [pI (nI b)] mem (some (pI (if isD b = true then 1 else 0))) mem := by
  have e1 : nI b < 48 ↔ b < 48 := nI_ltI (b := 48) (by omega) (by omega)
  have e2 : 57 < nI b ↔ 57 < b := nI_ltI (a := 57) (by omega) (by omega)
  refine Cl.of (own := RX9) rfl rfl (Nat.le_of_ble_eq_true rfl) rfl ?_; show PR _ _ _ _ _ _ [some _] _ _ _
  refine pr_iload_n 1 dX9_isDigit_0 rfl rfl rfl ?_
  refine pr_bipush (48) 3 dX9_isDigit_1 (by decide) rfl ?_
  refine pr_icmp_lt 16 6 dX9_isDigit_3 rfl rfl (fun c_3 => ?_) (fun c_3 => ?_)
  · rw [e1] at c_3
    refine pr_iconst (0) 17 dX9_isDigit_16 (by decide) rfl ?_
    refine pr_zreturn dX9_isDigit_17 rfl (by first | exact Or.inl rfl | exact Or.inr rfl) ?_
    exact ⟨by rw [if_neg (by simp [isD]; omega)], rfl⟩
  · rw [e1] at c_3
    refine pr_iload_n 7 dX9_isDigit_6 rfl rfl rfl ?_
    refine pr_bipush (57) 9 dX9_isDigit_7 (by decide) rfl ?_
    refine pr_icmp_gt 16 12 dX9_isDigit_9 rfl rfl (fun c_9 => ?_) (fun c_9 => ?_)
    · rw [e2] at c_9
      refine pr_iconst (0) 17 dX9_isDigit_16 (by decide) rfl ?_
      refine pr_zreturn dX9_isDigit_17 rfl (by first | exact Or.inl rfl | exact Or.inr rfl) ?_
      exact ⟨by rw [if_neg (by simp [isD]; omega)], rfl⟩
    · rw [e2] at c_9
      refine pr_iconst (1) 13 dX9_isDigit_12 (by decide) rfl ?_
      refine pr_goto 17 dX9_isDigit_13 rfl ?_
      refine pr_zreturn dX9_isDigit_17 rfl (by first | exact Or.inl rfl | exact Or.inr rfl) ?_
      exact ⟨by rw [if_pos (by simp [isD]; omega)], rfl⟩
/-- the byte at a place -/
def byt (B : Nat → Nat) (T p : Nat) : Nat := if p < T then B p else 0
set_option maxRecDepth 100000 in
theorem sp_X9_tapeAt (hs : mem.1 10009909 0 3 = nI T) (ht : ∀ k, k < T → mem.1 20840361 0 k = nI (B k)) (hT : T ≤ 840) {p : Nat} (hp : p ≤ T) : Cd yX9_tapeAt cX9_tapeAt 2 (some .int) 0 0 [pR 10009909 0, pI (nI p)] mem (some (pI (nI (byt B T p)))) mem := by
  refine Cl.of (own := RX9) rfl rfl (Nat.le_of_ble_eq_true rfl) rfl ?_; show PR _ _ _ _ _ _ [some _, some _] _ _ _
  by_cases z : p < T
  · refine pr_iload_n 1 dX9_tapeAt_0 rfl rfl rfl ?_
    refine pr_aload_n 2 dX9_tapeAt_1 rfl rfl rfl ?_
    refine pr_getI 5 dX9_tapeAt_2 fX9_18 rfl ?_
    rw [hs]
    refine pr_icmp_ge 17 8 dX9_tapeAt_5 rfl rfl (fun c_5 => absurd (c_5) (nI_ge (by omega) (by omega))) (fun c_5 => ?_)
    refine pr_aload_n 9 dX9_tapeAt_8 rfl rfl rfl ?_
    refine pr_getR0 12 dX9_tapeAt_9 fX9_7 rfl ?_
    refine pr_iload_n 13 dX9_tapeAt_12 rfl rfl rfl ?_
    refine pr_iaload p 14 dX9_tapeAt_13 rfl rfl rfl (by omega) rfl ?_
    rw [ht p z]
    refine pr_goto 18 dX9_tapeAt_14 rfl ?_
    refine pr_ireturn dX9_tapeAt_18 rfl ?_
    exact ⟨by rw [byt, if_pos z], rfl⟩
  · refine pr_iload_n 1 dX9_tapeAt_0 rfl rfl rfl ?_
    refine pr_aload_n 2 dX9_tapeAt_1 rfl rfl rfl ?_
    refine pr_getI 5 dX9_tapeAt_2 fX9_18 rfl ?_
    rw [hs]
    refine pr_icmp_ge 17 8 dX9_tapeAt_5 rfl rfl (fun c_5 => ?_) (fun c_5 => absurd ((nI_leI (by omega) (by omega)).mpr (by omega)) (c_5))
    refine pr_iconst (0) 18 dX9_tapeAt_17 (by decide) rfl ?_
    refine pr_ireturn dX9_tapeAt_18 rfl ?_
    exact ⟨by rw [byt, if_neg z]; rfl, rfl⟩
end TOK
