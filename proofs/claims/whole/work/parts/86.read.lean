/-! the reader, as mathematics -/
theorem rn_LD {B : Nat → Nat} {T : Nat} : ∀ {n p : Nat}, p + n = T → ∀ k, p ≤ k → k < rn B T p → (isL (B k) || isD (B k)) = true
  | 0, p, h, k, h1, h2 => by rw [rn_e (by omega)] at h2; omega
  | n + 1, p, h, k, h1, h2 => by
    by_cases z : (isL (B p) || isD (B p)) = true
    · rw [rn_s (by omega) z] at h2
      by_cases y : k = p
      · rw [y]; exact z
      · exact rn_LD (n := n) (by omega) k (by omega) h2
    · rw [rn_e (fun y => z y.2)] at h2; omega
theorem rn_stop {B : Nat → Nat} {T : Nat} : ∀ {n p : Nat}, p + n = T → ¬ (rn B T p < T ∧ (isL (B (rn B T p)) || isD (B (rn B T p))) = true)
  | 0, p, h => by rw [rn_e (by omega)]; omega
  | n + 1, p, h => by
    by_cases z : (isL (B p) || isD (B p)) = true
    · rw [rn_s (by omega) z]
      exact rn_stop (n := n) (by omega)
    · rw [rn_e (fun y => z y.2)]; exact fun y => z y.2
theorem aN_at {B : Nat → Nat} {q : Nat} : ∀ {n k : Nat}, aN B q n = true → k < n → isL (B (q + k)) = false
  | 0, _, _, h => absurd h (Nat.not_lt_zero _)
  | n + 1, k, h, hk => by
    rw [aN] at h
    simp at h
    by_cases z : k = n
    · rw [z]; exact h.2
    · exact aN_at h.1 (by omega)
theorem tK2 {B : Nat → Nat} {T p : Nat} (h : tK B T p = 2) : ¬ min T 800 ≤ tQ B T p ∧ ¬ B (tQ B T p) = 59 ∧ ¬ rn B T (tQ B T p) = tQ B T p ∧ aN B (tQ B T p) (rn B T (tQ B T p) - tQ B T p) = true ∧ rn B T (tQ B T p) - tQ B T p ≤ 4 := by
  unfold tK at h
  split at h
  · omega
  · rename_i h1
    split at h
    · omega
    · rename_i h2
      split at h
      · omega
      · rename_i h3
        split at h
        · have := wk_ge B (tQ B T p) (rn B T (tQ B T p) - tQ B T p); omega
        · split at h
          · rename_i h5; exact ⟨h1, h2, h3, h5.1, h5.2⟩
          · omega
theorem tV_lt {B : Nat → Nat} {T p : Nat} (h : tK B T p = 2) : tV B T p < 10000 := by
  obtain ⟨h1, h2, h3, h4, h5⟩ := tK2 h
  have hge := rn_ge (B := B) (n := T - tQ B T p) (p := tQ B T p) (T := T) (by omega)
  have hd : ∀ k, k < rn B T (tQ B T p) - tQ B T p → 48 ≤ B (tQ B T p + k) ∧ B (tQ B T p + k) ≤ 57 := by
    intro k hk
    have a := aN_at h4 hk
    have b := rn_LD (B := B) (T := T) (n := T - tQ B T p) (p := tQ B T p) (by omega) (tQ B T p + k) (by omega) (by omega)
    rw [a] at b
    simpa [isD] using b
  unfold tV
  generalize rn B T (tQ B T p) - tQ B T p = n at *
  rcases (by omega : n = 0 ∨ n = 1 ∨ n = 2 ∨ n = 3 ∨ n = 4) with rfl | rfl | rfl | rfl | rfl
  · simp [nv]
  · have := hd 0 (by omega); simp [nv] at *; omega
  · have := hd 0 (by omega); have := hd 1 (by omega); simp [nv] at *; omega
  · have := hd 0 (by omega); have := hd 1 (by omega); have := hd 2 (by omega); simp [nv] at *; omega
  · have := hd 0 (by omega); have := hd 1 (by omega); have := hd 2 (by omega); have := hd 3 (by omega); simp [nv] at *; omega
theorem tN_bd {B : Nat → Nat} {T p : Nat} (hp : p ≤ T) (h : 2 ≤ tK B T p) : p < tN B T p ∧ tN B T p ≤ T ∧ p ≤ tQ B T p ∧ tQ B T p < tN B T p ∧ tQ B T p < 800 := by
  have hq : ¬ min T 800 ≤ tQ B T p := fun z => by rw [tK, if_pos z] at h; omega
  have hq2 : p ≤ tQ B T p := by
    unfold tQ
    rcases Nat.lt_or_ge p (min T 800) with z | z
    · exact (sk_bd (by omega)).1
    · rw [sk_e (by omega)]; omega
  have hge := rn_ge (B := B) (n := T - tQ B T p) (p := tQ B T p) (T := T) (by omega)
  unfold tN
  by_cases h59 : B (tQ B T p) = 59
  · rw [if_pos h59]; omega
  · rw [if_neg h59]
    have : ¬ rn B T (tQ B T p) = tQ B T p := fun z => by rw [tK, if_neg hq, if_neg h59, if_pos z] at h; omega
    omega
/-- what is read so far: the row, lines, the line's word (0: between lines), its numbers, what is aboard, the step's word, steps -/
def RS : Type := (Nat → Nat) × Nat × Nat × List Nat × Nat × Nat × Nat × (Nat → Nat × Nat) × (Nat → Nat)
def RS.K (s : RS) : Nat → Nat := s.1
def RS.ln (s : RS) : Nat := s.2.1
def RS.w (s : RS) : Nat := s.2.2.1
def RS.f (s : RS) : List Nat := s.2.2.2.1
def RS.on (s : RS) : Nat := s.2.2.2.2.1
def RS.sw (s : RS) : Nat := s.2.2.2.2.2.1
def RS.sn (s : RS) : Nat := s.2.2.2.2.2.2.1
def RS.sf (s : RS) : Nat → Nat × Nat := s.2.2.2.2.2.2.2.1
def RS.se (s : RS) : Nat → Nat := s.2.2.2.2.2.2.2.2
def mkS (K : Nat → Nat) (ln w : Nat) (f : List Nat) (on sw sn : Nat) (sf : Nat → Nat × Nat) (se : Nat → Nat) : RS := (K, ln, w, f, on, sw, sn, sf, se)
def wnt (w : Nat) : Nat := if w = 5 then 1 else if w = 6 ∨ w = 7 then 2 else 3
def numF (lo hi k v : Nat) : Except Nat Nat := if k = 2 then (if lo ≤ v ∧ v ≤ hi then .ok v else .error 2) else .error 1
def tolF (c k v : Nat) : Except Nat Nat := if k = 2 then (if v < c then .ok v else .error 3) else .error 1
/-- the next number of a line -/
def fld (s : RS) (k v : Nat) : Except Nat Nat :=
  if s.w = 5 then numF 0 999 k v else if s.w = 6 then numF 0 99 k v else if s.w = 7 then (if s.f.length = 0 then numF 0 999 k v else numF 0 9999 k v)
  else if s.w = 8 then (if s.f.length = 0 then numF 1 99 k v else if s.f.length = 1 then tolF (s.K 37) k v else if k = 2 ∧ v = s.f.getD 1 0 then .error 3 else tolF (s.K 37) k v)
  else if s.f.length = 0 then tolF (s.K 38) k v else if s.f.length = 1 then (if k = 10 then .ok 0 else (numF 0 9999 k v).map (fun x => x + 1)) else tolF (s.K 37) k v
/-- a trip begins -/
def trB (K : Nat → Nat) (a b c : Nat) : Nat → Nat := up (up (up (up K (101 + 6 * K 40) a) (4 + K 40) b) (104 + 6 * K 40) c) (105 + 6 * K 40) c
def push (s : RS) (x : Nat) : RS := if s.w = 9 ∧ s.f.length = 2 then mkS (trB s.K (s.f.getD 0 0) (s.f.getD 1 0) x) s.ln s.w (s.f ++ [x]) s.on s.sw s.sn s.sf (up s.se (s.K 40) s.sn) else mkS s.K s.ln s.w (s.f ++ [x]) s.on s.sw s.sn s.sf s.se
/-- a leg to the place x -/
def legK (K : Nat → Nat) (t on x : Nat) : Nat → Nat := fun k =>
  if k = 105 + 6 * t then x
  else if k = 102 + 6 * t then K k + dd K (K (105 + 6 * t)) x
  else if k = 103 + 6 * t ∧ on = 0 then K k + dd K (K (105 + 6 * t)) x
  else if 853 ≤ k ∧ k < 869 ∧ on.testBit (k - 853) = true then K k + dd K (K (105 + 6 * t)) x
  else if k = 709 + 12 * K (105 + 6 * t) + x ∧ ¬ K (105 + 6 * t) = x then K k + 1
  else K k
def onK (K : Nat → Nat) (t x : Nat) : Nat → Nat := up (up K (197 + 16 * t + x) (K (105 + 6 * t))) (106 + 6 * t) (K (106 + 6 * t) ||| 2 ^ x)
def offK (K : Nat → Nat) (t x : Nat) : Nat → Nat := up (up K (453 + 16 * t + x) (K (105 + 6 * t))) (106 + 6 * t) (K (106 + 6 * t) ||| 2 ^ x)
def stpN (s : RS) (v : Nat) : RS :=
  mkS (if s.sw = 11 then legK s.K (s.K 40) s.on v else if s.sw = 12 then onK s.K (s.K 40) v else offK s.K (s.K 40) v) s.ln s.w s.f (if s.sw = 11 then s.on else s.on ^^^ 2 ^ v) 0 (s.sn + 1) (fun j => if j = s.sn then (s.sw, v) else s.sf j) (up s.se (s.K 40) (s.sn + 1))
def endK (s : RS) : Nat → Nat :=
  if s.w = 5 then up s.K 36 (s.f.getD 0 0)
  else if s.w = 6 then up (up (up s.K (41 + s.K 37) (s.f.getD 0 0)) (53 + s.K 37) (s.f.getD 1 0)) 37 (s.K 37 + 1)
  else if s.w = 7 then up (up (up s.K (65 + s.K 38) (s.f.getD 0 0)) (s.K 38) (s.f.getD 1 0)) 38 (s.K 38 + 1)
  else if s.w = 8 then up (up (up (up s.K (20 + s.K 39) (s.f.getD 0 0)) (69 + s.K 39) (s.f.getD 1 0)) (85 + s.K 39) (s.f.getD 2 0)) 39 (s.K 39 + 1)
  else up s.K 40 (s.K 40 + 1)
def endL (s : RS) : RS := mkS (endK s) (s.ln + 1) 0 s.f s.on s.sw s.sn s.sf s.se
def begL (s : RS) (k : Nat) : RS := mkS s.K s.ln k [] 0 0 s.sn s.sf s.se
def stp (s : RS) (k v : Nat) : Except Nat RS :=
  if s.w = 0 then
    if ¬ (k = 5 ↔ s.ln = 0) then .error 1
    else if k = 5 then .ok (begL s 5)
    else if k = 6 then (if s.K 37 < 12 then .ok (begL s 6) else .error 4)
    else if k = 7 then (if s.K 38 < 4 then .ok (begL s 7) else .error 4)
    else if k = 8 then (if s.K 39 < 16 then .ok (begL s 8) else .error 4)
    else if k = 9 then (if s.K 40 < 16 then .ok (begL s 9) else .error 4)
    else .error 1
  else if s.f.length < wnt s.w then (fld s k v).map (push s)
  else if s.w = 9 then
    if ¬ s.sw = 0 then
      (if ¬ k = 2 then .error 1
      else if ¬ v < (if s.sw = 11 then s.K 37 else s.K 39) then .error 3
      else if s.sw = 12 ∧ (s.K (106 + 6 * s.K 40)).testBit v = true then .error 3
      else if s.sw = 13 ∧ ¬ s.on.testBit v = true then .error 3
      else .ok (stpN s v))
    else if k = 11 ∨ k = 12 ∨ k = 13 then .ok (mkS s.K s.ln s.w s.f s.on k s.sn s.sf s.se)
    else if k = 3 then (if s.on = 0 then .ok (endL s) else .error 3)
    else .error 1
  else if k = 3 then .ok (endL s) else .error 1
/-- what comes of a text -/
def run (B : Nat → Nat) (T : Nat) : Nat → RS → Nat → Option (Except (Nat × Nat) RS)
  | 0, _, _ => none
  | n + 1, s, p => if tK B T p = 0 then (if s.w = 0 ∧ T ≤ 800 then some (.ok s) else some (.error (1, tS B T p))) else
    match stp s (tK B T p) (tV B T p) with
    | .error e => some (.error (e, tS B T p))
    | .ok s' => run B T n s' (tN B T p)
theorem run_s {B : Nat → Nat} {T : Nat} : ∀ {n : Nat} {s : RS} {p : Nat} {r : Except (Nat × Nat) RS}, run B T n s p = some r → run B T (n + 1) s p = some r
  | 0, _, _, _, h => by cases h
  | n + 1, s, p, r, h => by
    rw [run] at h ⊢
    split
    · rename_i z; rw [if_pos z] at h; exact h
    · rename_i z
      rw [if_neg z] at h
      split
      · rename_i y; rw [y] at h; exact h
      · rename_i y; rw [y] at h; exact run_s h
theorem run_m {B : Nat → Nat} {T : Nat} {s : RS} {p : Nat} {r : Except (Nat × Nat) RS} {n : Nat} (h : run B T n s p = some r) : ∀ m, run B T (n + m) s p = some r
  | 0 => h
  | m + 1 => run_s (run_m h m)
def Rd (B : Nat → Nat) (T : Nat) (s : RS) (p : Nat) (r : Except (Nat × Nat) RS) : Prop := ∃ n, run B T n s p = some r
theorem Rd.det {B : Nat → Nat} {T : Nat} {s : RS} {p : Nat} {r1 r2 : Except (Nat × Nat) RS} (h1 : Rd B T s p r1) (h2 : Rd B T s p r2) : r1 = r2 := by
  obtain ⟨n, h1⟩ := h1
  obtain ⟨m, h2⟩ := h2
  have a := run_m h1 m
  have b := run_m h2 n
  rw [Nat.add_comm m n, a] at b
  cases b
  rfl
theorem Rd.fin {B : Nat → Nat} {T : Nat} {s : RS} {p : Nat} (h : tK B T p = 0) (h2 : s.w = 0 ∧ T ≤ 800) : Rd B T s p (.ok s) := ⟨1, by rw [run, if_pos h, if_pos h2]⟩
theorem Rd.cut {B : Nat → Nat} {T : Nat} {s : RS} {p : Nat} (h : tK B T p = 0) (h2 : ¬ (s.w = 0 ∧ T ≤ 800)) : Rd B T s p (.error (1, tS B T p)) := ⟨1, by rw [run, if_pos h, if_neg h2]⟩
theorem Rd.bad {B : Nat → Nat} {T : Nat} {s : RS} {p e : Nat} (h : ¬ tK B T p = 0) (h2 : stp s (tK B T p) (tV B T p) = .error e) : Rd B T s p (.error (e, tS B T p)) := ⟨1, by rw [run, if_neg h, h2]⟩
theorem Rd.go {B : Nat → Nat} {T : Nat} {s s' : RS} {p : Nat} {r : Except (Nat × Nat) RS} (h : ¬ tK B T p = 0) (h2 : stp s (tK B T p) (tV B T p) = .ok s') (h3 : Rd B T s' (tN B T p) r) : Rd B T s p r := by
  obtain ⟨n, h3⟩ := h3
  exact ⟨n + 1, by rw [run, if_neg h, h2]; exact h3⟩
/-- behind some tokens -/
def Rt (B : Nat → Nat) (T : Nat) (s : RS) (p : Nat) (s' : RS) (p' : Nat) : Prop := (∀ r, Rd B T s' p' r → Rd B T s p r) ∧ ∀ I : RS → Nat → Prop, (∀ s p s', I s p → ¬ tK B T p = 0 → stp s (tK B T p) (tV B T p) = .ok s' → I s' (tN B T p)) → I s p → I s' p'
theorem Rt.rf {B : Nat → Nat} {T : Nat} {s : RS} {p : Nat} : Rt B T s p s p := ⟨fun _ h => h, fun _ _ h => h⟩
theorem Rt.tr {B : Nat → Nat} {T : Nat} {s s1 s2 : RS} {p p1 p2 : Nat} (h1 : Rt B T s p s1 p1) (h2 : Rt B T s1 p1 s2 p2) : Rt B T s p s2 p2 := ⟨fun r h => h1.1 r (h2.1 r h), fun I hI h => h2.2 I hI (h1.2 I hI h)⟩
theorem Rt.one {B : Nat → Nat} {T : Nat} {s s' : RS} {p : Nat} (h : ¬ tK B T p = 0) (h2 : stp s (tK B T p) (tV B T p) = .ok s') : Rt B T s p s' (tN B T p) := ⟨fun _ h3 => Rd.go h h2 h3, fun _ hI h3 => hI _ _ _ h3 h h2⟩
section MTD
variable {mem mem0 : pm_M} {T p : Nat} {B : Nat → Nat}
/-- the text that the reference reads -/
def txM (mem : pm_M) (T : Nat) (B : Nat → Nat) : Prop := mem.1 10009909 0 3 = nI T ∧ (∀ k, k < T → mem.1 20840361 0 k = nI (B k)) ∧ T ≤ 840 ∧ ∀ k, B k < 256
theorem txM.go (h : txM mem0 T B) (hg : goF mem0 mem) : txM mem T B := ⟨by rw [hg.size]; exact h.1, by rw [hg.tape]; exact h.2.1, h.2.2⟩
abbrev tdOk (B : Nat → Nat) (T p : Nat) (a b : Int32) : Prop := tK B T p = 2 ∧ a ≤ nI (tV B T p) ∧ nI (tV B T p) ≤ b
/-- a fault is told -/
def fltM (m0 m : pm_M) (e q : Nat) : Prop := badF m0 m ∧ m.1 10009909 0 8 = nI e ∧ m.1 10009909 0 9 = nI q
def tdP (m0 m : pm_M) (B : Nat → Nat) (T p : Nat) (a b : Int32) (e : Nat) : Prop := if tdOk B T p a b then goF m0 m ∧ mtk m B T (tN B T p) else fltM m0 m (if tK B T p = 2 then e else 1) (tS B T p)
set_option maxRecDepth 100000 in
theorem sp_X9_told (hx : txM mem0 T B) (h : mtk mem0 B T p) (hp : p ≤ T) (a b : Int32) (e : Nat) : Cl yX9_told cX9_told 5 (some .int) 2 45 [pR 10009909 0, pI a, pI b, pI (nI e)] mem0 (fun r mem => r = some (pI (if tdOk B T p a b then nI (tV B T p) else -1)) ∧ tdP mem0 mem B T p a b e) := by
  refine Cl.of (own := RX9) rfl rfl (Nat.le_of_ble_eq_true rfl) rfl ?_; show PR _ _ _ _ _ _ [some _, some _, some _, some _, none] _ _ _
  by_cases k2 : tK B T p = 2
  · have hm : msort (tK B T p) T = 3 := by rw [k2]; rfl
    have hn := h.2.2.2.1 k2
    by_cases hr : a ≤ nI (tV B T p) ∧ nI (tV B T p) ≤ b
    · have hok : tdOk B T p a b := ⟨k2, hr⟩
      have hb := tN_bd hp (by omega : 2 ≤ tK B T p)
      rw [if_pos hok]
      refine pr_aload_n 1 dX9_told_0 rfl rfl rfl ?_
      refine pr_getI 4 dX9_told_1 fX9_27 rfl ?_
      rw [h.1, hm]
      refine pr_iconst (3) 5 dX9_told_4 (by decide) rfl ?_
      refine pr_icmp_eq 16 8 dX9_told_5 rfl rfl (fun c_5 => ?_) (fun c_5 => absurd (rfl) (c_5))
      refine pr_aload_n 17 dX9_told_16 rfl rfl rfl ?_
      refine pr_getI 20 dX9_told_17 fX9_41 rfl ?_
      rw [hn]
      refine pr_iload_n 21 dX9_told_20 rfl rfl rfl ?_
      refine pr_iload_n 22 dX9_told_21 rfl rfl rfl ?_
      refine pr_ivsD3 25 dX9_told_22 sX9_113 mX9_isIn (sp_X9_isIn _ _ _) ⟨Nat.le_of_ble_eq_true rfl, Nat.le_of_ble_eq_true rfl⟩ (Nat.le_of_ble_eq_true rfl) rfl ?_
      refine pr_if_ne 36 28 dX9_told_25 rfl rfl (fun c_25 => ?_) (fun c_25 => absurd (c_25) (by rw [if_pos hr]; decide))
      refine pr_aload_n 37 dX9_told_36 rfl rfl rfl ?_
      refine pr_getI 40 dX9_told_37 fX9_41 rfl ?_
      rw [hn]
      refine pr_istore 42 dX9_told_40 (pm_st_4 rfl rfl) rfl ?_
      refine pr_aload_n 43 dX9_told_42 rfl rfl rfl ?_
      refine pr_inv0R0 46 dX9_told_43 vX9_117 mX9_go (sp_X9_go hx.1 hx.2.1 hx.2.2.1 hx.2.2.2 hb.2.1 (h.2.2.1 (by omega))) ⟨Nat.le_of_ble_eq_true rfl, Nat.le_of_ble_eq_true rfl⟩ (Nat.le_of_ble_eq_true rfl) rfl (fun mem1 h1 => ?_)
      refine pr_iload 48 dX9_told_46 rfl rfl ?_
      refine pr_ireturn dX9_told_48 rfl ?_
      exact ⟨rfl, by rw [tdP, if_pos hok]; exact h1⟩
    · have hok : ¬ tdOk B T p a b := fun z => hr z.2
      rw [if_neg hok]
      refine pr_aload_n 1 dX9_told_0 rfl rfl rfl ?_
      refine pr_getI 4 dX9_told_1 fX9_27 rfl ?_
      rw [h.1, hm]
      refine pr_iconst (3) 5 dX9_told_4 (by decide) rfl ?_
      refine pr_icmp_eq 16 8 dX9_told_5 rfl rfl (fun c_5 => ?_) (fun c_5 => absurd (rfl) (c_5))
      refine pr_aload_n 17 dX9_told_16 rfl rfl rfl ?_
      refine pr_getI 20 dX9_told_17 fX9_41 rfl ?_
      rw [hn]
      refine pr_iload_n 21 dX9_told_20 rfl rfl rfl ?_
      refine pr_iload_n 22 dX9_told_21 rfl rfl rfl ?_
      refine pr_ivsD3 25 dX9_told_22 sX9_113 mX9_isIn (sp_X9_isIn _ _ _) ⟨Nat.le_of_ble_eq_true rfl, Nat.le_of_ble_eq_true rfl⟩ (Nat.le_of_ble_eq_true rfl) rfl ?_
      refine pr_if_ne 36 28 dX9_told_25 rfl rfl (fun c_25 => absurd (by rw [if_neg hr]) (c_25)) (fun c_25 => ?_)
      refine pr_aload_n 29 dX9_told_28 rfl rfl rfl ?_
      refine pr_iload_n 30 dX9_told_29 rfl rfl rfl ?_
      refine pr_invDR1 33 dX9_told_30 vX9_110 mX9_bad (sp_X9_bad h e) ⟨Nat.le_of_ble_eq_true rfl, Nat.le_of_ble_eq_true rfl⟩ (Nat.le_of_ble_eq_true rfl) rfl (fun mem1 h1 => ?_)
      refine pr_pop rfl 34 dX9_told_33 rfl ?_
      refine pr_iconst (-1) 35 dX9_told_34 (by decide) rfl ?_
      refine pr_ireturn dX9_told_35 rfl ?_
      refine ⟨rfl, ?_⟩
      rw [tdP, if_neg hok, if_pos k2]
      rw [hm] at h1
      exact ⟨h1.1, h1.2.2.1, h1.2.2.2⟩
  · have hok : ¬ tdOk B T p a b := fun z => k2 z.1
    rw [if_neg hok]
    have hm : ¬ nI (msort (tK B T p) T) = 3 := by
      unfold msort
      repeat' split
      all_goals first | decide | omega
    refine pr_aload_n 1 dX9_told_0 rfl rfl rfl ?_
    refine pr_getI 4 dX9_told_1 fX9_27 rfl ?_
    rw [h.1]
    refine pr_iconst (3) 5 dX9_told_4 (by decide) rfl ?_
    refine pr_icmp_eq 16 8 dX9_told_5 rfl rfl (fun c_5 => absurd (c_5) (hm)) (fun c_5 => ?_)
    refine pr_aload_n 9 dX9_told_8 rfl rfl rfl ?_
    refine pr_iconst (1) 10 dX9_told_9 (by decide) rfl ?_
    refine pr_invDR1 13 dX9_told_10 vX9_110 mX9_bad (sp_X9_bad h 1) ⟨Nat.le_of_ble_eq_true rfl, Nat.le_of_ble_eq_true rfl⟩ (Nat.le_of_ble_eq_true rfl) rfl (fun mem1 h1 => ?_)
    refine pr_pop rfl 14 dX9_told_13 rfl ?_
    refine pr_iconst (-1) 15 dX9_told_14 (by decide) rfl ?_
    refine pr_ireturn dX9_told_15 rfl ?_
    refine ⟨rfl, ?_⟩
    rw [tdP, if_neg hok, if_neg k2]
    refine ⟨h1.1, ?_, h1.2.2.2⟩
    have := h1.2.2.1
    split at this <;> exact this
end MTD
