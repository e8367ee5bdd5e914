/-! the class: a trip is driven -/
/-- the routes hold the row H, in trip t with on aboard -/
def dvI (mem : pm_M) (H : Nat → Nat) (t on : Nat) : Prop :=
  (∀ u, u < 16 → mem.1 20016201 0 u = nI (H (102 + 6 * u)) ∧ mem.1 20016202 0 u = nI (H (103 + 6 * u)) ∧ mem.1 20016204 0 u = nI (H (106 + 6 * u))) ∧
  (∀ a b, a < 12 → b < 12 → mem.1 20012607 a b = nI (H (709 + 12 * a + b))) ∧
  (∀ l, l < 16 → mem.1 20016209 0 l = nI (H (853 + l))) ∧
  (∀ u l, u < 16 → l < 16 → (H (106 + 6 * u)).testBit l = true → mem.1 20016605 u l = nI (H (197 + 16 * u + l)) ∧ (¬ (u = t ∧ on.testBit l = true) → mem.1 20016606 u l = nI (H (453 + 16 * u + l)))) ∧
  (∀ u, u < t → mem.1 20016203 0 u = nI (H (105 + 6 * u))) ∧ ∀ l, on.testBit l = true → (H (106 + 6 * t)).testBit l = true
section DRV
variable {mem m : pm_M} {H : Nat → Nat} {t on x : Nat}
theorem dvI_leg {y L : Nat} (h : dvI mem H t on) (ht : t < 16) (hp : H (105 + 6 * t) < 12) (hx : x < 12) (hy : dd H (H (105 + 6 * t)) x = y) (hL : L ≤ 16) (hon : ∀ l, on.testBit l = true → l < L) (hq : lgQ mem m t on y (H (105 + 6 * t)) x L True) : dvI m (legK H t on x) t on := by
  obtain ⟨i1, i2, i3, i4, i5, i6⟩ := h
  obtain ⟨-, -, g1, g2, g3, g4, g5, g6, g7, g8⟩ := hq
  have e6 : ∀ u, u < 16 → legK H t on x (106 + 6 * u) = H (106 + 6 * u) := fun u hu => by rw [legK, if_neg (by omega), if_neg (by omega), if_neg (by omega), if_neg (by omega), if_neg (by omega)]
  have eW : ∀ a b, a < 12 → b < 12 → legK H t on x (709 + 12 * a + b) = if a = H (105 + 6 * t) ∧ b = x ∧ ¬ H (105 + 6 * t) = x then H (709 + 12 * a + b) + 1 else H (709 + 12 * a + b) := fun a b ha hb => by
    rw [legK, if_neg (by omega), if_neg (by omega), if_neg (by omega), if_neg (by omega)]
    by_cases z : a = H (105 + 6 * t) ∧ b = x ∧ ¬ H (105 + 6 * t) = x
    · rw [if_pos z, if_pos ⟨by omega, z.2.2⟩]
    · rw [if_neg z, if_neg (fun w => z ⟨by omega, by omega, w.2⟩)]
  have eL : ∀ l, l < 16 → legK H t on x (853 + l) = if on.testBit l = true then H (853 + l) + y else H (853 + l) := fun l hl => by
    rw [legK, if_neg (by omega), if_neg (by omega), if_neg (by omega), hy]
    by_cases z : on.testBit l = true
    · rw [if_pos z, if_pos ⟨by omega, by omega, by rw [show 853 + l - 853 = l by omega]; exact z⟩]
    · rw [if_neg z, if_neg (fun w => z (by have := w.2.2; rwa [show 853 + l - 853 = l by omega] at this)), if_neg (by omega)]
  refine ⟨fun u hu => ⟨?_, ?_, ?_⟩, fun a b ha hb => ?_, fun l hl => ?_, fun u l hu hl hb => ?_, fun u hu => ?_, fun l hl => ?_⟩
  · rw [g1 u, (i1 u hu).1]
    by_cases z : u = t
    · rw [if_pos z, z, legK, if_neg (by omega), if_pos rfl, hy, nI_add]
    · rw [if_neg z, legK, if_neg (by omega), if_neg (by omega), if_neg (by omega), if_neg (by omega), if_neg (by omega)]
  · rw [g2 u, (i1 u hu).2.1]
    by_cases z : u = t ∧ on = 0
    · rw [if_pos z, z.1, legK, if_neg (by omega), if_neg (by omega), if_pos ⟨rfl, z.2⟩, hy, nI_add]
    · rw [if_neg z, legK, if_neg (by omega), if_neg (by omega), if_neg (fun w => z ⟨by omega, w.2⟩), if_neg (by omega), if_neg (by omega)]
  · rw [g6, (i1 u hu).2.2, e6 u hu]
  · rw [(g4 a b).1 trivial, i2 a b ha hb, eW a b ha hb]
    by_cases z : a = H (105 + 6 * t) ∧ b = x ∧ ¬ H (105 + 6 * t) = x
    · rw [if_pos z, if_pos z, nI_1]
    · rw [if_neg z, if_neg z]
  · rw [g3 l, i3 l hl, eL l hl]
    by_cases z : on.testBit l = true
    · rw [if_pos ⟨hon l z, z⟩, if_pos z, nI_add]
    · rw [if_neg (fun w => z w.2), if_neg z]
  · rw [e6 u hu] at hb
    have := i4 u l hu hl hb
    rw [g7, g8, legK, if_neg (by omega), if_neg (by omega), if_neg (by omega), if_neg (by omega), if_neg (by omega), legK, if_neg (by omega), if_neg (by omega), if_neg (by omega), if_neg (by omega), if_neg (by omega)]
    exact this
  · rw [g5, i5 u hu, legK, if_neg (by omega), if_neg (by omega), if_neg (by omega), if_neg (by omega), if_neg (by omega)]
  · rw [e6 t ht]; exact i6 l hl
theorem dvI_on (h : dvI mem H t on) (ht : t < 16) (hx : x < 16) (hb : ¬ on.testBit x = true) : dvI (pm_uI (pm_uI mem 20016204 0 t (nI (H (106 + 6 * t) ||| 2 ^ x))) 20016605 t x (nI (H (105 + 6 * t)))) (onK H t x) t (on ||| 2 ^ x) := by
  obtain ⟨i1, i2, i3, i4, i5, i6⟩ := h
  have ne : ∀ k, ¬ k = 106 + 6 * t → ¬ k = 197 + 16 * t + x → onK H t x k = H k := fun k h1 h2 => by rw [onK, up_ne h1, up_ne h2]
  have e6 : onK H t x (106 + 6 * t) = H (106 + 6 * t) ||| 2 ^ x := by rw [onK, up_eq]
  refine ⟨fun u hu => ⟨?_, ?_, ?_⟩, fun a b ha hb => ?_, fun l hl => ?_, fun u l hu hl hb' => ?_, fun u hu => ?_, fun l hl => ?_⟩
  · rw [pm_gIn (by simp), pm_gIn (by simp), ne _ (by omega) (by omega)]; exact (i1 u hu).1
  · rw [pm_gIn (by simp), pm_gIn (by simp), ne _ (by omega) (by omega)]; exact (i1 u hu).2.1
  · rw [pm_gIn (by simp)]
    by_cases z : u = t
    · subst z; rw [pm_gIe, e6]
    · rw [pm_gIn (fun y => z y.2.2), ne _ (by omega) (by omega)]; exact (i1 u hu).2.2
  · rw [pm_gIn (by simp), pm_gIn (by simp), ne _ (by omega) (by omega)]; exact i2 a b ha hb
  · rw [pm_gIn (by simp), pm_gIn (by simp), ne _ (by omega) (by omega)]; exact i3 l hl
  · by_cases z : u = t ∧ l = x
    · obtain ⟨rfl, rfl⟩ := z
      refine ⟨?_, fun w => absurd ⟨rfl, ?_⟩ w⟩
      · rw [pm_gIe, onK, up_ne (by omega), up_eq]
      · rw [Nat.testBit_or, Nat.testBit_two_pow]; simp
    · have hb2 : (H (106 + 6 * u)).testBit l = true := by
        by_cases zu : u = t
        · subst zu
          rw [e6, Nat.testBit_or, Nat.testBit_two_pow] at hb'
          have zl : ¬ x = l := fun w => z ⟨rfl, w.symm⟩
          simpa [zl] using hb'
        · rw [ne _ (by omega) (by omega)] at hb'; exact hb'
      have := i4 u l hu hl hb2
      rw [pm_gIn (fun y => z ⟨y.2.1, y.2.2⟩), pm_gIn (by simp), pm_gIn (by simp), pm_gIn (by simp), ne (197 + 16 * u + l) (by omega) (by omega), ne (453 + 16 * u + l) (by omega) (by omega)]
      refine ⟨this.1, fun w => this.2 (fun q => w ⟨q.1, ?_⟩)⟩
      rw [Nat.testBit_or, q.2]; rfl
  · rw [pm_gIn (by simp), pm_gIn (by simp), ne _ (by omega) (by omega)]; exact i5 u hu
  · rw [e6, Nat.testBit_or]
    rw [Nat.testBit_or] at hl
    simp at hl ⊢
    rcases hl with w | w
    · exact Or.inl (i6 l w)
    · exact Or.inr w
theorem dvI_off (h : dvI mem H t on) (ht : t < 16) (hx : x < 16) (hb : on.testBit x = true) : dvI (pm_uI mem 20016606 t x (nI (H (105 + 6 * t)))) (offK H t x) t (on ^^^ 2 ^ x) := by
  obtain ⟨i1, i2, i3, i4, i5, i6⟩ := h
  have e6 : offK H t x (106 + 6 * t) = H (106 + 6 * t) := by rw [offK, up_eq, or_self (i6 x hb)]
  have ne : ∀ k, ¬ k = 453 + 16 * t + x → offK H t x k = H k := fun k h2 => by
    by_cases z : k = 106 + 6 * t
    · rw [z]; exact e6
    · rw [offK, up_ne z, up_ne h2]
  refine ⟨fun u hu => ⟨?_, ?_, ?_⟩, fun a b ha hb => ?_, fun l hl => ?_, fun u l hu hl hb' => ?_, fun u hu => ?_, fun l hl => ?_⟩
  · rw [pm_gIn (by simp), ne _ (by omega)]; exact (i1 u hu).1
  · rw [pm_gIn (by simp), ne _ (by omega)]; exact (i1 u hu).2.1
  · rw [pm_gIn (by simp), ne _ (by omega)]; exact (i1 u hu).2.2
  · rw [pm_gIn (by simp), ne _ (by omega)]; exact i2 a b ha hb
  · rw [pm_gIn (by simp), ne _ (by omega)]; exact i3 l hl
  · rw [ne _ (by omega)] at hb'
    have := i4 u l hu hl hb'
    refine ⟨?_, fun w => ?_⟩
    · rw [pm_gIn (by simp), ne _ (by omega)]; exact this.1
    · by_cases z : u = t ∧ l = x
      · obtain ⟨rfl, rfl⟩ := z
        rw [pm_gIe, offK, up_ne (by omega), up_eq]
      · rw [pm_gIn (fun y => z ⟨y.2.1, y.2.2⟩), ne _ (by omega)]
        refine this.2 (fun q => w ⟨q.1, ?_⟩)
        rw [Nat.testBit_xor, Nat.testBit_two_pow, q.2]
        have zl : ¬ x = l := fun y => z ⟨q.1, y.symm⟩
        simp [zl]
  · rw [pm_gIn (by simp), ne _ (by omega)]; exact i5 u hu
  · rw [e6]
    rw [Nat.testBit_xor, Nat.testBit_two_pow] at hl
    by_cases zl : x = l
    · rw [← zl]; exact i6 x hb
    · exact i6 l (by simpa [zl] using hl)
theorem dvI_up {c : Nat} (h : dvI mem H t 0) (ht : t < 16) : dvI mem (up H (105 + 6 * t) c) t 0 := by
  obtain ⟨i1, i2, i3, i4, i5, i6⟩ := h
  refine ⟨fun u hu => ?_, fun a b ha hb => ?_, fun l hl => ?_, fun u l hu hl hb => ?_, fun u hu => ?_, fun l hl => by rw [Nat.zero_testBit] at hl; cases hl⟩
  · rw [up_ne (by omega), up_ne (by omega), up_ne (by omega)]; exact i1 u hu
  · rw [up_ne (by omega)]; exact i2 a b ha hb
  · rw [up_ne (by omega)]; exact i3 l hl
  · rw [up_ne (by omega)] at hb
    rw [up_ne (by omega), up_ne (by omega)]; exact i4 u l hu hl hb
  · rw [up_ne (by omega)]; exact i5 u hu
theorem oT_b {K : Nat → Nat} {sf : Nat → Nat × Nat} {a : Nat} : ∀ {n : Nat}, (∀ i, i < n → okS K (sf (a + i)) (oT sf a i)) → ∀ l, (oT sf a n).testBit l = true → l < K 39
  | 0, _, l, hl => by rw [oT, Nat.zero_testBit] at hl; cases hl
  | n + 1, h, l, hl => by
    have ih := oT_b (n := n) (fun i hi => h i (by omega)) l
    rw [oT] at hl
    split at hl
    · exact ih hl
    · rename_i c
      have hs := h n (by omega)
      rw [Nat.testBit_xor, Nat.testBit_two_pow] at hl
      by_cases e : (sf (a + n)).2 = l
      · rcases hs with z | z | z
        · exact absurd z.1 c
        · omega
        · omega
      · exact ih (by simpa [e] using hl)
theorem dvI_end {v : Int32} (h : dvI mem H t 0) (hv : v = nI (H (105 + 6 * t))) : dvI (pm_uI mem 20016203 0 t v) H (t + 1) 0 := by
  obtain ⟨i1, i2, i3, i4, i5, i6⟩ := h
  have z0' : ∀ l, ¬ (0 : Nat).testBit l = true := fun l z => by rw [Nat.zero_testBit] at z; cases z
  refine ⟨fun u hu => ?_, fun a b ha hb => ?_, fun l hl => ?_, fun u l hu hl hb => ?_, fun u hu => ?_, fun l hl => absurd hl (z0' l)⟩
  · rw [pm_gIn (by simp), pm_gIn (by simp), pm_gIn (by simp)]; exact i1 u hu
  · rw [pm_gIn (by simp)]; exact i2 a b ha hb
  · rw [pm_gIn (by simp)]; exact i3 l hl
  · rw [pm_gIn (by simp), pm_gIn (by simp)]
    exact ⟨(i4 u l hu hl hb).1, fun _ => (i4 u l hu hl hb).2 (fun z => z0' l z.2)⟩
  · by_cases z : u = t
    · subst z; rw [pm_gIe, hv]
    · rw [pm_gIn (fun y => z y.2.2)]; exact i5 u (by omega)
end DRV
theorem rdD.desk {mem : pm_M} {d : Nat} {K : Nat → Nat} {sn : Nat} {sf : Nat → Nat × Nat} {se : Nat → Nat} (h : rdD mem d K (K 40) sn sf se) : deskR mem d K := by
  obtain ⟨⟨d1, d2, d3, d4, d5, d6⟩, dx, du, dw, dt, ds⟩ := h
  exact ⟨d1, d2, d3, d4, d5, dx, du, dw, fun t ht => ⟨(dt t ht).1, (dt t ht).2.1, (dt t ht).2.2.1⟩⟩
section DRV2
variable {mem0 : pm_M} {d sn : Nat} {K H : Nat → Nat} {sf : Nat → Nat × Nat} {se : Nat → Nat} {t : Nat}
set_option maxRecDepth 100000 in
theorem sp_X5_drive (hr : rdD mem0 d K (K 40) sn sf se) (hW : WF K) (hp : mem0.2.2 10005905 0 0 = some d) (ht : t < K 40) (hfs : fs se t ≤ se t) (hse : se t ≤ 200) (hsn : se t ≤ sn) (hok : ∀ i, fs se t + i < se t → okS K (sf (fs se t + i)) (oT sf (fs se t) i)) (ho0 : oT sf (fs se t) (se t - fs se t) = 0) (hH : ∀ p, p < K 37 → H (41 + p) = K (41 + p) ∧ H (53 + p) = K (53 + p)) (h4 : H (104 + 6 * t) = K (104 + 6 * t)) (hI : dvI mem0 H t 0) : Cl yX5_drive cX5_drive 7 none 3 70 [pR 10005905 0, pI (nI t)] mem0 (fun r m => r = none ∧ pm_fr sDL mem0 m ∧ m.2.2 = mem0.2.2 ∧ dvI m (rT sf t (fs se t) (up H (105 + 6 * t) (H (104 + 6 * t))) (se t - fs se t)) (t + 1) 0) := by
  have h12 := hW.2.1
  have h16 := hW.2.2.2.1
  have t16 : t < 16 := by have := hW.2.2.2.2.1; omega
  have hst := (hW.2.2.2.2.2.2.2.2.1 t ht).2.2.2.1
  obtain ⟨n, en⟩ : ∃ n, se t - fs se t = n := ⟨_, rfl⟩
  obtain ⟨a, ea⟩ : ∃ a, fs se t = a := ⟨_, rfl⟩
  rw [ea] at en hok ho0 hfs ⊢
  rw [en] at ho0 ⊢
  obtain ⟨G, eG⟩ : ∃ G, G = up H (105 + 6 * t) (H (104 + 6 * t)) := ⟨_, rfl⟩
  rw [← eG]
  have hG5 : G (105 + 6 * t) = K (104 + 6 * t) := by rw [eG, up_eq, h4]
  have hGx : ∀ p, p < K 37 → G (41 + p) = K (41 + p) ∧ G (53 + p) = K (53 + p) := fun p hp => by rw [eG, up_ne (by omega), up_ne (by omega)]; exact hH p hp
  have hsV : ∀ i, i ≤ n → sV (K 37) sf a i := fun i hi j hj => by
    have := hok j (by omega)
    unfold okS at this
    exact ⟨fun z => by omega, fun z => by omega⟩
  have lp : ∀ j i mem a5 a6, i + j = n → pm_fr sDL mem0 mem → mem.2.2 = mem0.2.2 → dvI mem (rT sf t a G i) t (oT sf a i) → PR cX5_drive RX5 7 3 70 22 [some (pR 10005905 0), some (pI (nI t)), some (pI (nI (rT sf t a G i (105 + 6 * t)))), some (pI (nI (oT sf a i))), some (pI (nI (a + i))), a5, a6] [] mem (pm_RX cX5_drive none (fun r m => r = none ∧ pm_fr sDL mem0 m ∧ m.2.2 = mem0.2.2 ∧ dvI m (rT sf t a G n) (t + 1) 0)) := by
    intro j
    induction j with
    | zero =>
      intro i mem a5 a6 hj hf hf2 hi
      have e : i = n := by omega
      subst e
      have hp1 : mem.2.2 10005905 0 0 = some d := by rw [hf2]; exact hp
      have hr1 : rdD mem d K (K 40) sn sf se := rdD.eq hr (fun t' ht' => (hf t' d (fun z => by
        simp [dkT] at ht'
        simp [sDL] at z
        omega)).1)
      rw [ho0] at hi ⊢
      refine pr_iload 24 dX5_drive_22 rfl rfl ?_
      refine pr_aload_n 25 dX5_drive_24 rfl rfl rfl ?_
      refine pr_getP d 28 dX5_drive_25 fX5_56 hp1 rfl ?_
      refine pr_getR0 31 dX5_drive_28 fX5_95 rfl ?_
      refine pr_iload_n 32 dX5_drive_31 rfl rfl rfl ?_
      refine pr_iaload t 33 dX5_drive_32 rfl rfl rfl (by omega) rfl ?_
      rw [(hr1.2.2.2.2.1 t ht).2.2.2]
      refine pr_icmp_ge 147 36 dX5_drive_33 rfl rfl (fun c_33 => ?_) (fun c_33 => absurd ((nI_leI (by omega) (by omega)).mpr (by omega)) (c_33))
      refine pr_aload_n 148 dX5_drive_147 rfl rfl rfl ?_
      refine pr_getR0 151 dX5_drive_148 fX5_18 rfl ?_
      refine pr_iload_n 152 dX5_drive_151 rfl rfl rfl ?_
      refine pr_iload_n 153 dX5_drive_152 rfl rfl rfl ?_
      refine pr_iastore t 154 dX5_drive_153 rfl rfl rfl (by omega) rfl ?_
      refine pr_return dX5_drive_154 rfl ?_
      exact ⟨rfl, hf.uI (Or.inl ⟨by simp, rfl⟩), hf2, dvI_end hi rfl⟩
    | succ j ih =>
      intro i mem a5 a6 hj hf hf2 hi
      have hp1 : mem.2.2 10005905 0 0 = some d := by rw [hf2]; exact hp
      have hr1 : rdD mem d K (K 40) sn sf se := rdD.eq hr (fun t' ht' => (hf t' d (fun z => by
        simp [dkT] at ht'
        simp [sDL] at z
        omega)).1)
      have hstp := hr1.2.2.2.2.2 (a + i) (by omega)
      have hoki := hok i (by omega)
      have hpl : rT sf t a G i (105 + 6 * t) < K 37 := rT_pl t16 (by rw [hG5]; exact hst) (hsV i (by omega))
      have hxy : ∀ p, p < K 37 → rT sf t a G i (41 + p) = K (41 + p) ∧ rT sf t a G i (53 + p) = K (53 + p) := fun p hp => by
        rw [rT_nj t16 (M := K 37) h12 (by rw [hG5]; exact hst) (by unfold jx; omega) (hsV i (by omega)), rT_nj t16 (M := K 37) h12 (by rw [hG5]; exact hst) (by unfold jx; omega) (hsV i (by omega))]
        exact hGx p hp
      have hob := oT_b (K := K) (sf := sf) (a := a) (n := i) (fun q hq => hok q (by omega))
      have ho16 : oT sf a i < 65536 := Nat.lt_pow_two_of_testBit (n := 16) _ (fun q hq => by
        by_cases z : (oT sf a i).testBit q = true
        · have := hob q z; omega
        · simpa using z)
      have hT1 : rT sf t a G (i + 1) = on1 (rT sf t a G i) t (oT sf a i) (sf (a + i)) := rfl
      have hO1 : oT sf a (i + 1) = if (sf (a + i)).1 = 11 then oT sf a i else oT sf a i ^^^ 2 ^ (sf (a + i)).2 := rfl
      have hI' := fun mem' a5 a6 => ih (i + 1) mem' a5 a6 (by omega)
      generalize rT sf t a G (i + 1) = H2 at hT1 hI'
      generalize oT sf a (i + 1) = O2 at hO1 hI'
      generalize rT sf t a G i = H1 at *
      generalize oT sf a i = O1 at *
      obtain ⟨k, v, ekv⟩ : ∃ k v, sf (a + i) = (k, v) := ⟨_, _, rfl⟩
      rw [ekv] at hstp hoki hT1 hO1
      have s1 : mem.1 20200017 d (a + i) = nI k := hstp.1
      have s2 : mem.1 20200018 d (a + i) = nI v := hstp.2
      rcases hoki with ⟨z, hv⟩ | ⟨z, hv, hb⟩ | ⟨z, hv, hb⟩
      · have z' : k = 11 := z
        have hv' : v < K 37 := hv
        subst z'
        rw [show on1 H1 t O1 (11, v) = legK H1 t O1 v from rfl] at hT1
        replace hO1 : O2 = O1 := by simpa using hO1
        rw [hT1, hO1] at hI'
        have hdd : dd H1 (H1 (105 + 6 * t)) v = dd K (H1 (105 + 6 * t)) v := by
          unfold dd
          rw [(hxy _ hpl).1, (hxy _ hpl).2, (hxy _ hv').1, (hxy _ hv').2]
        have hleg := sp_X5_driveLeg (t := t) (on := O1) hr1.desk hW hp1 t16 ho16 hpl hv'
        refine pr_iload 24 dX5_drive_22 rfl rfl ?_
        refine pr_aload_n 25 dX5_drive_24 rfl rfl rfl ?_
        refine pr_getP d 28 dX5_drive_25 fX5_56 hp1 rfl ?_
        refine pr_getR0 31 dX5_drive_28 fX5_95 rfl ?_
        refine pr_iload_n 32 dX5_drive_31 rfl rfl rfl ?_
        refine pr_iaload t 33 dX5_drive_32 rfl rfl rfl (by omega) rfl ?_
        rw [(hr1.2.2.2.2.1 t ht).2.2.2]
        refine pr_icmp_ge 147 36 dX5_drive_33 rfl rfl (fun c_33 => absurd (c_33) (nI_ge (by omega) (by omega))) (fun c_33 => ?_)
        refine pr_aload_n 37 dX5_drive_36 rfl rfl rfl ?_
        refine pr_getP d 40 dX5_drive_37 fX5_56 hp1 rfl ?_
        refine pr_getR0 43 dX5_drive_40 fX5_98 rfl ?_
        refine pr_iload 45 dX5_drive_43 rfl rfl ?_
        refine pr_iaload (a + i) 46 dX5_drive_45 rfl rfl rfl (by omega) rfl ?_
        rw [s2]
        refine pr_istore 48 dX5_drive_46 (pm_st_5 rfl rfl) rfl ?_
        refine pr_aload_n 49 dX5_drive_48 rfl rfl rfl ?_
        refine pr_getP d 52 dX5_drive_49 fX5_56 hp1 rfl ?_
        refine pr_getR0 55 dX5_drive_52 fX5_101 rfl ?_
        refine pr_iload 57 dX5_drive_55 rfl rfl ?_
        refine pr_iaload (a + i) 58 dX5_drive_57 rfl rfl rfl (by omega) rfl ?_
        rw [s1]
        refine pr_istore 60 dX5_drive_58 (pm_st_6 rfl rfl) rfl ?_
        refine pr_iload 62 dX5_drive_60 rfl rfl ?_
        refine pr_bipush (11) 64 dX5_drive_62 (by decide) rfl ?_
        refine pr_icmp_ne 82 67 dX5_drive_64 rfl rfl (fun c_64 => absurd (rfl) (c_64)) (fun c_64 => ?_)
        refine pr_aload_n 68 dX5_drive_67 rfl rfl rfl ?_
        refine pr_iload_n 69 dX5_drive_68 rfl rfl rfl ?_
        refine pr_iload_n 70 dX5_drive_69 rfl rfl rfl ?_
        refine pr_iload_n 71 dX5_drive_70 rfl rfl rfl ?_
        refine pr_iload 73 dX5_drive_71 rfl rfl ?_
        refine pr_inv0R4 76 dX5_drive_73 vX5_104 mX5_driveLeg (hleg) ⟨Nat.le_of_ble_eq_true rfl, Nat.le_of_ble_eq_true rfl⟩ (Nat.le_of_ble_eq_true rfl) rfl (fun mem1 h1 => ?_)
        refine pr_iload 78 dX5_drive_76 rfl rfl ?_
        refine pr_istore_n 79 dX5_drive_78 rfl (pm_st_2 rfl rfl) rfl ?_
        refine pr_goto 141 dX5_drive_79 rfl ?_
        refine pr_iinc 144 dX5_drive_141 rfl (by first | exact pm_inc _ | rfl) (pm_st_4 rfl rfl) rfl ?_
        refine pr_goto 22 dX5_drive_144 rfl ?_
        have := hI' mem1 (some (pI (nI v))) (some (pI (nI 11))) (hf.tr h1.1) (h1.2.1.trans hf2) (dvI_leg hi t16 (by omega) (by omega) hdd h16 hob h1)
        rw [show legK H1 t O1 v (105 + 6 * t) = v by rw [legK, if_pos rfl], ← Nat.add_assoc] at this
        exact this
      · have z' : k = 12 := z
        have hv' : v < K 39 := hv
        have hb' : ¬ O1.testBit v = true := hb
        subst z'
        rw [show on1 H1 t O1 (12, v) = onK H1 t v from rfl] at hT1
        replace hO1 : O2 = O1 ||| 2 ^ v := by rw [or_xor hb']; simpa using hO1
        rw [hT1, hO1] at hI'
        refine pr_iload 24 dX5_drive_22 rfl rfl ?_
        refine pr_aload_n 25 dX5_drive_24 rfl rfl rfl ?_
        refine pr_getP d 28 dX5_drive_25 fX5_56 hp1 rfl ?_
        refine pr_getR0 31 dX5_drive_28 fX5_95 rfl ?_
        refine pr_iload_n 32 dX5_drive_31 rfl rfl rfl ?_
        refine pr_iaload t 33 dX5_drive_32 rfl rfl rfl (by omega) rfl ?_
        rw [(hr1.2.2.2.2.1 t ht).2.2.2]
        refine pr_icmp_ge 147 36 dX5_drive_33 rfl rfl (fun c_33 => absurd (c_33) (nI_ge (by omega) (by omega))) (fun c_33 => ?_)
        refine pr_aload_n 37 dX5_drive_36 rfl rfl rfl ?_
        refine pr_getP d 40 dX5_drive_37 fX5_56 hp1 rfl ?_
        refine pr_getR0 43 dX5_drive_40 fX5_98 rfl ?_
        refine pr_iload 45 dX5_drive_43 rfl rfl ?_
        refine pr_iaload (a + i) 46 dX5_drive_45 rfl rfl rfl (by omega) rfl ?_
        rw [s2]
        refine pr_istore 48 dX5_drive_46 (pm_st_5 rfl rfl) rfl ?_
        refine pr_aload_n 49 dX5_drive_48 rfl rfl rfl ?_
        refine pr_getP d 52 dX5_drive_49 fX5_56 hp1 rfl ?_
        refine pr_getR0 55 dX5_drive_52 fX5_101 rfl ?_
        refine pr_iload 57 dX5_drive_55 rfl rfl ?_
        refine pr_iaload (a + i) 58 dX5_drive_57 rfl rfl rfl (by omega) rfl ?_
        rw [s1]
        refine pr_istore 60 dX5_drive_58 (pm_st_6 rfl rfl) rfl ?_
        refine pr_iload 62 dX5_drive_60 rfl rfl ?_
        refine pr_bipush (11) 64 dX5_drive_62 (by decide) rfl ?_
        refine pr_icmp_ne 82 67 dX5_drive_64 rfl rfl (fun c_64 => ?_) (fun c_64 => absurd (c_64) (by decide))
        refine pr_iload 84 dX5_drive_82 rfl rfl ?_
        refine pr_bipush (12) 86 dX5_drive_84 (by decide) rfl ?_
        refine pr_icmp_ne 122 89 dX5_drive_86 rfl rfl (fun c_86 => absurd (rfl) (c_86)) (fun c_86 => ?_)
        refine pr_iload_n 90 dX5_drive_89 rfl rfl rfl ?_
        refine pr_iconst (1) 91 dX5_drive_90 (by decide) rfl ?_
        refine pr_iload 93 dX5_drive_91 rfl rfl ?_
        refine pr_ishl 94 dX5_drive_93 rfl ?_
        rw [nI_shl1 v (by omega)]
        refine pr_ior 95 dX5_drive_94 rfl ?_
        rw [nI_orN]
        refine pr_istore_n 96 dX5_drive_95 rfl (pm_st_3 rfl rfl) rfl ?_
        refine pr_aload_n 97 dX5_drive_96 rfl rfl rfl ?_
        refine pr_getR0 100 dX5_drive_97 fX5_21 rfl ?_
        refine pr_iload_n 101 dX5_drive_100 rfl rfl rfl ?_
        refine pr_dup2 rfl rfl 102 dX5_drive_101 rfl ?_
        refine pr_iaload t 103 dX5_drive_102 rfl rfl rfl (by omega) rfl ?_
        rw [(hi.1 t t16).2.2]
        refine pr_iconst (1) 104 dX5_drive_103 (by decide) rfl ?_
        refine pr_iload 106 dX5_drive_104 rfl rfl ?_
        refine pr_ishl 107 dX5_drive_106 rfl ?_
        rw [nI_shl1 v (by omega)]
        refine pr_ior 108 dX5_drive_107 rfl ?_
        rw [nI_orN]
        refine pr_iastore t 109 dX5_drive_108 rfl rfl rfl (by omega) rfl ?_
        refine pr_aload_n 110 dX5_drive_109 rfl rfl rfl ?_
        refine pr_getR0 113 dX5_drive_110 fX5_26 rfl ?_
        refine pr_iload_n 114 dX5_drive_113 rfl rfl rfl ?_
        first | refine pr_aaload0 (n := 16) t 20016605 115 dX5_drive_114 rfl rfl rfl rfl (by omega) rfl ?_ | refine pr_aaload (n := 16) t 20016605 115 dX5_drive_114 rfl rfl rfl rfl (by omega) rfl ?_
        refine pr_iload 117 dX5_drive_115 rfl rfl ?_
        refine pr_iload_n 118 dX5_drive_117 rfl rfl rfl ?_
        refine pr_iastore v 119 dX5_drive_118 rfl rfl rfl (by omega) rfl ?_
        refine pr_goto 141 dX5_drive_119 rfl ?_
        refine pr_iinc 144 dX5_drive_141 rfl (by first | exact pm_inc _ | rfl) (pm_st_4 rfl rfl) rfl ?_
        refine pr_goto 22 dX5_drive_144 rfl ?_
        have := hI' _ (some (pI (nI v))) (some (pI (nI 12))) ((hf.uI (Or.inl ⟨by simp, rfl⟩)).uI (Or.inr (Or.inr (Or.inl rfl)))) hf2 (dvI_on hi t16 (by omega) hb')
        rw [show onK H1 t v (105 + 6 * t) = H1 (105 + 6 * t) by rw [onK, up_ne (by omega), up_ne (by omega)], ← Nat.add_assoc] at this
        exact this
      · have z' : k = 13 := z
        have hv' : v < K 39 := hv
        have hb' : O1.testBit v = true := hb
        subst z'
        rw [show on1 H1 t O1 (13, v) = offK H1 t v from rfl] at hT1
        replace hO1 : O2 = O1 ^^^ 2 ^ v := by simpa using hO1
        rw [hT1, hO1] at hI'
        refine pr_iload 24 dX5_drive_22 rfl rfl ?_
        refine pr_aload_n 25 dX5_drive_24 rfl rfl rfl ?_
        refine pr_getP d 28 dX5_drive_25 fX5_56 hp1 rfl ?_
        refine pr_getR0 31 dX5_drive_28 fX5_95 rfl ?_
        refine pr_iload_n 32 dX5_drive_31 rfl rfl rfl ?_
        refine pr_iaload t 33 dX5_drive_32 rfl rfl rfl (by omega) rfl ?_
        rw [(hr1.2.2.2.2.1 t ht).2.2.2]
        refine pr_icmp_ge 147 36 dX5_drive_33 rfl rfl (fun c_33 => absurd (c_33) (nI_ge (by omega) (by omega))) (fun c_33 => ?_)
        refine pr_aload_n 37 dX5_drive_36 rfl rfl rfl ?_
        refine pr_getP d 40 dX5_drive_37 fX5_56 hp1 rfl ?_
        refine pr_getR0 43 dX5_drive_40 fX5_98 rfl ?_
        refine pr_iload 45 dX5_drive_43 rfl rfl ?_
        refine pr_iaload (a + i) 46 dX5_drive_45 rfl rfl rfl (by omega) rfl ?_
        rw [s2]
        refine pr_istore 48 dX5_drive_46 (pm_st_5 rfl rfl) rfl ?_
        refine pr_aload_n 49 dX5_drive_48 rfl rfl rfl ?_
        refine pr_getP d 52 dX5_drive_49 fX5_56 hp1 rfl ?_
        refine pr_getR0 55 dX5_drive_52 fX5_101 rfl ?_
        refine pr_iload 57 dX5_drive_55 rfl rfl ?_
        refine pr_iaload (a + i) 58 dX5_drive_57 rfl rfl rfl (by omega) rfl ?_
        rw [s1]
        refine pr_istore 60 dX5_drive_58 (pm_st_6 rfl rfl) rfl ?_
        refine pr_iload 62 dX5_drive_60 rfl rfl ?_
        refine pr_bipush (11) 64 dX5_drive_62 (by decide) rfl ?_
        refine pr_icmp_ne 82 67 dX5_drive_64 rfl rfl (fun c_64 => ?_) (fun c_64 => absurd (c_64) (by decide))
        refine pr_iload 84 dX5_drive_82 rfl rfl ?_
        refine pr_bipush (12) 86 dX5_drive_84 (by decide) rfl ?_
        refine pr_icmp_ne 122 89 dX5_drive_86 rfl rfl (fun c_86 => ?_) (fun c_86 => absurd (c_86) (by decide))
        refine pr_iload_n 123 dX5_drive_122 rfl rfl rfl ?_
        refine pr_iconst (1) 124 dX5_drive_123 (by decide) rfl ?_
        refine pr_iload 126 dX5_drive_124 rfl rfl ?_
        refine pr_ishl 127 dX5_drive_126 rfl ?_
        rw [nI_shl1 v (by omega)]
        refine pr_iconst (-1) 128 dX5_drive_127 (by decide) rfl ?_
        refine pr_ixor 129 dX5_drive_128 rfl ?_
        refine pr_iand 130 dX5_drive_129 rfl ?_
        rw [nI_clr (by omega) hb']
        refine pr_istore_n 131 dX5_drive_130 rfl (pm_st_3 rfl rfl) rfl ?_
        refine pr_aload_n 132 dX5_drive_131 rfl rfl rfl ?_
        refine pr_getR0 135 dX5_drive_132 fX5_29 rfl ?_
        refine pr_iload_n 136 dX5_drive_135 rfl rfl rfl ?_
        first | refine pr_aaload0 (n := 16) t 20016606 137 dX5_drive_136 rfl rfl rfl rfl (by omega) rfl ?_ | refine pr_aaload (n := 16) t 20016606 137 dX5_drive_136 rfl rfl rfl rfl (by omega) rfl ?_
        refine pr_iload 139 dX5_drive_137 rfl rfl ?_
        refine pr_iload_n 140 dX5_drive_139 rfl rfl rfl ?_
        refine pr_iastore v 141 dX5_drive_140 rfl rfl rfl (by omega) rfl ?_
        refine pr_iinc 144 dX5_drive_141 rfl (by first | exact pm_inc _ | rfl) (pm_st_4 rfl rfl) rfl ?_
        refine pr_goto 22 dX5_drive_144 rfl ?_
        have := hI' _ (some (pI (nI v))) (some (pI (nI 13))) (hf.uI (Or.inr (Or.inr (Or.inr rfl)))) hf2 (dvI_off hi t16 (by omega) hb')
        rw [show offK H1 t v (105 + 6 * t) = H1 (105 + 6 * t) by rw [offK, up_ne (by omega), up_ne (by omega)], ← Nat.add_assoc] at this
        exact this
  have hfst := sp_X0_firstStep (mem := mem0) (d := d) (n := t) (se := se) (fun k hk => (hr.2.2.2.2.1 k (by omega)).2.2.2) t16
  rw [show (if t = 0 then 0 else se (t - 1)) = a from ea] at hfst
  refine Cl.of (own := RX5) rfl rfl (Nat.le_of_ble_eq_true rfl) rfl ?_; show PR _ _ _ _ _ _ [some _, some _, none, none, none, none, none] _ _ _
  refine pr_aload_n 1 dX5_drive_0 rfl rfl rfl ?_
  refine pr_getP d 4 dX5_drive_1 fX5_56 hp rfl ?_
  refine pr_getR0 7 dX5_drive_4 fX5_88 rfl ?_
  refine pr_iload_n 8 dX5_drive_7 rfl rfl rfl ?_
  refine pr_iaload t 9 dX5_drive_8 rfl rfl rfl (by omega) rfl ?_
  rw [(hr.2.2.2.2.1 t ht).2.2.1]
  refine pr_istore_n 10 dX5_drive_9 rfl (pm_st_2 rfl rfl) rfl ?_
  refine pr_iconst (0) 11 dX5_drive_10 (by decide) rfl ?_
  refine pr_istore_n 12 dX5_drive_11 rfl (pm_st_3 rfl rfl) rfl ?_
  refine pr_aload_n 13 dX5_drive_12 rfl rfl rfl ?_
  refine pr_getP d 16 dX5_drive_13 fX5_56 hp rfl ?_
  refine pr_iload_n 17 dX5_drive_16 rfl rfl rfl ?_
  refine pr_invD1 20 dX5_drive_17 vX5_91 mX0_firstStep (hfst) ⟨Nat.le_of_ble_eq_true rfl, Nat.le_of_ble_eq_true rfl⟩ (Nat.le_of_ble_eq_true rfl) rfl ?_
  refine pr_istore 22 dX5_drive_20 (pm_st_4 rfl rfl) rfl ?_
  have := lp n 0 mem0 none none (by omega) pm_fr.rf rfl (by rw [eG]; exact dvI_up hI t16)
  rw [show rT sf t a G 0 (105 + 6 * t) = K (104 + 6 * t) from hG5] at this
  exact this
end DRV2
