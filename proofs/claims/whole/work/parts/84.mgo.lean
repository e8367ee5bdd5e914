/-! the reference: go -/
section MGO
variable {mem mem0 : pm_M} {T : Nat} {B : Nat → Nat}
def sMo : Nat → Nat → Prop := fun t i => t = 10009909 ∧ i = 0
def goF (m0 m : pm_M) : Prop := pm_fr sMo m0 m ∧ ∀ k, k ≠ 4 → k ≠ 5 → k ≠ 6 → k ≠ 7 → m.1 10009909 0 k = m0.1 10009909 0 k
theorem goF.rf : goF mem mem := ⟨pm_fr.rf, fun _ _ _ _ _ => rfl⟩
theorem goF.tr {m1 m2 : pm_M} (h1 : goF mem0 m1) (h2 : goF m1 m2) : goF mem0 m2 := ⟨h1.1.tr h2.1, fun k a b c d => (h2.2 k a b c d).trans (h1.2 k a b c d)⟩
theorem goF.u {j : Nat} {x : Int32} (h : goF mem0 mem) (hj : j = 4 ∨ j = 5 ∨ j = 6 ∨ j = 7) : goF mem0 (pm_uI mem 10009909 0 j x) :=
  ⟨h.1.uI ⟨rfl, rfl⟩, fun k a b c d => by rw [pm_gIn (fun y => by have := y.2.2; omega)]; exact h.2 k a b c d⟩
theorem goF.w {x : Int64} (h : goF mem0 mem) : goF mem0 (pm_uJ mem 10009909 0 10 x) := ⟨h.1.uJ ⟨rfl, rfl⟩, h.2⟩
theorem goF.size (h : goF mem0 mem) : mem.1 10009909 0 3 = mem0.1 10009909 0 3 := h.2 _ (by decide) (by decide) (by decide) (by decide)
theorem goF.tape (h : goF mem0 mem) : mem.1 20840361 0 = mem0.1 20840361 0 := (h.1 _ _ (by simp [sMo])).1
theorem goF.read (h : goF mem0 mem) : mem.1 20869372 0 = mem0.1 20869372 0 := (h.1 _ _ (by simp [sMo])).1
/-- of one kind with the first, so far -/
def gG2 (B : Nat → Nat) (q n : Nat) : Bool := if isL (B q) = true then aL B q n else aN B q n
theorem gG2_s (B : Nat → Nat) (q n : Nat) : gG2 B q (n + 1) = (gG2 B q n && (isL (B (q + n)) == isL (B q))) := by
  unfold gG2
  cases h : isL (B q) <;> simp [aL, aN]
theorem gG2_L {B : Nat → Nat} {q n : Nat} (h : isL (B q) = true) : gG2 B q n = aL B q n := by rw [gG2, if_pos h]
theorem gG2_N {B : Nat → Nat} {q n : Nat} (h : ¬ isL (B q) = true) : gG2 B q n = aN B q n := by rw [gG2, if_neg h]
theorem aL_first {B : Nat → Nat} {q : Nat} : ∀ {n : Nat}, 1 ≤ n → aL B q n = true → isL (B q) = true
  | 0, h, _ => absurd h (by omega)
  | 1, _, h => by simpa [aL] using h
  | n + 2, _, h => aL_first (n := n + 1) (by omega) (by rw [aL] at h; simp at h; exact h.1)
theorem aN_first {B : Nat → Nat} {q : Nat} : ∀ {n : Nat}, 1 ≤ n → aN B q n = true → isL (B q) = false
  | 0, h, _ => absurd h (by omega)
  | 1, _, h => by simpa [aN] using h
  | n + 2, _, h => aN_first (n := n + 1) (by omega) (by rw [aN] at h; simp at h; exact h.1)
set_option maxRecDepth 100000 in
theorem sp_X9_go (hs : mem0.1 10009909 0 3 = nI T) (ht : ∀ k, k < T → mem0.1 20840361 0 k = nI (B k)) (hT : T ≤ 840) (hB : ∀ k, B k < 256) {p : Nat} (hp : p ≤ T) (hto : mem0.1 10009909 0 4 = nI p) : Cl yX9_go cX9_go 5 none 1 21 [pR 10009909 0] mem0 (fun r mem => r = none ∧ goF mem0 mem ∧ mtk mem B T p) := by
  obtain ⟨Q, hQ⟩ : ∃ Q, sk B T p = Q := ⟨_, rfl⟩
  have hQ2 := sk_bd (B := B) hp
  rw [hQ] at hQ2
  have hL := sk_L (B := B) (L := min T 800) (T := T) (by omega) (n := T - p) (p := p) (by omega)
  rw [hQ] at hL
  have fin : ¬ min T 800 ≤ Q → tQ B T p = Q → (isL (B Q) || isD (B Q)) = true → ∀ k mem (a1 a4 : Option pm_v), 1 ≤ k → rn B T Q = Q + k → goF mem0 mem → mem.1 10009909 0 4 = nI (Q + k) → mem.1 10009909 0 5 = nI Q → mem.1 10009909 0 7 = nI (nv B Q k) → (aL B Q k = true → mem.2.1 10009909 0 10 = lN (wc B Q k)) → PR cX9_go RX9 5 1 21 312 [some (pR 10009909 0), a1, some (pI (if isL (B Q) = true then 1 else 0)), some (pI (if gG2 B Q k = true then 1 else 0)), a4] [] mem (pm_RX cX9_go none (fun r mem => r = none ∧ goF mem0 mem ∧ mtk mem B T p)) := by
    intro hQl hq hLD k mem a1 a4 hk hr hg h1 h2 h3 h4
    have h59 : ¬ B Q = 59 := fun z => by rw [z] at hLD; exact absurd hLD (by decide)
    have hsub : rn B T Q - Q = k := by omega
    have hkT := (rn_ge (B := B) (n := T - Q) (p := Q) (T := T) (by omega)).2
    have eS : tS B T p = Q := by rw [tS, hq]; omega
    have eN : tN B T p = Q + k := by rw [tN, hq, if_neg h59, hr]
    have eV : tV B T p = nv B Q k := by rw [tV, hq, hsub]
    have eK : tK B T p = if aL B Q k = true then wk B Q k else if aN B Q k = true ∧ k ≤ 4 then 2 else 1 := by
      rw [tK, hq, if_neg hQl, if_neg h59, if_neg (by omega), hsub]
    have done : ∀ v, v = msort (tK B T p) T → mtk (pm_uI mem 10009909 0 6 (nI v)) B T p := by
      intro v hv
      refine ⟨by rw [pm_gIe, hv], by rw [pm_gIn (by simp), eS]; exact h2, fun _ => by rw [pm_gIn (by simp), eN]; exact h1, fun _ => by rw [pm_gIn (by simp), eV]; exact h3, fun h5 => ?_⟩
      rw [hq, hsub]
      refine h4 ?_
      by_cases z : aL B Q k = true
      · exact z
      · rw [eK, if_neg z] at h5
        split at h5 <;> omega
    by_cases hG : gG2 B Q k = true
    · by_cases hl : isL (B Q) = true
      · have hA : aL B Q k = true := by rw [gG2_L hl] at hG; exact hG
        have hw := wk_ge B Q k
        refine pr_aload_n 313 dX9_go_312 rfl rfl rfl ?_
        refine pr_iload_n 314 dX9_go_313 rfl rfl rfl ?_
        refine pr_if_eq 334 317 dX9_go_314 rfl rfl (fun c_314 => absurd (c_314) (by rw [if_pos hG]; decide)) (fun c_314 => ?_)
        refine pr_iload_n 318 dX9_go_317 rfl rfl rfl ?_
        refine pr_if_ne 338 321 dX9_go_318 rfl rfl (fun c_318 => ?_) (fun c_318 => absurd (c_318) (by rw [if_pos hl]; decide))
        refine pr_iload_n 339 dX9_go_338 rfl rfl rfl ?_
        refine pr_if_eq 346 342 dX9_go_339 rfl rfl (fun c_339 => absurd (c_339) (by rw [if_pos hl]; decide)) (fun c_339 => ?_)
        refine pr_iconst (2) 343 dX9_go_342 (by decide) rfl ?_
        refine pr_goto 347 dX9_go_343 rfl ?_
        refine pr_putI 350 dX9_go_347 fX9_27 rfl ?_
        refine pr_return dX9_go_350 rfl ?_
        refine ⟨rfl, hg.u (by decide), done 2 ?_⟩
        rw [eK, if_pos hA, msort, if_neg (by omega), if_neg (by omega), if_neg (by omega), if_neg (by omega)]
      · have hA : aN B Q k = true := by rw [gG2_N hl] at hG; exact hG
        have hA2 : ¬ aL B Q k = true := fun z => hl (aL_first hk z)
        by_cases h4' : k ≤ 4
        · refine pr_aload_n 313 dX9_go_312 rfl rfl rfl ?_
          refine pr_iload_n 314 dX9_go_313 rfl rfl rfl ?_
          refine pr_if_eq 334 317 dX9_go_314 rfl rfl (fun c_314 => absurd (c_314) (by rw [if_pos hG]; decide)) (fun c_314 => ?_)
          refine pr_iload_n 318 dX9_go_317 rfl rfl rfl ?_
          refine pr_if_ne 338 321 dX9_go_318 rfl rfl (fun c_318 => absurd (by rw [if_neg hl]) (c_318)) (fun c_318 => ?_)
          refine pr_aload_n 322 dX9_go_321 rfl rfl rfl ?_
          refine pr_getI 325 dX9_go_322 fX9_21 rfl ?_
          rw [h1]
          refine pr_aload_n 326 dX9_go_325 rfl rfl rfl ?_
          refine pr_getI 329 dX9_go_326 fX9_24 rfl ?_
          rw [h2]
          refine pr_isub 330 dX9_go_329 rfl ?_
          rw [nI_subN (by omega), show Q + k - Q = k by omega]
          refine pr_iconst (4) 331 dX9_go_330 (by decide) rfl ?_
          refine pr_icmp_le 338 334 dX9_go_331 rfl rfl (fun c_331 => ?_) (fun c_331 => absurd ((nI_leI (b := 4) (by omega) (by omega)).mpr h4') (c_331))
          refine pr_iload_n 339 dX9_go_338 rfl rfl rfl ?_
          refine pr_if_eq 346 342 dX9_go_339 rfl rfl (fun c_339 => ?_) (fun c_339 => absurd (by rw [if_neg hl]) (c_339))
          refine pr_iconst (3) 347 dX9_go_346 (by decide) rfl ?_
          refine pr_putI 350 dX9_go_347 fX9_27 rfl ?_
          refine pr_return dX9_go_350 rfl ?_
          refine ⟨rfl, hg.u (by decide), done 3 ?_⟩
          rw [eK, if_neg hA2, if_pos ⟨hA, h4'⟩]; rfl
        · refine pr_aload_n 313 dX9_go_312 rfl rfl rfl ?_
          refine pr_iload_n 314 dX9_go_313 rfl rfl rfl ?_
          refine pr_if_eq 334 317 dX9_go_314 rfl rfl (fun c_314 => absurd (c_314) (by rw [if_pos hG]; decide)) (fun c_314 => ?_)
          refine pr_iload_n 318 dX9_go_317 rfl rfl rfl ?_
          refine pr_if_ne 338 321 dX9_go_318 rfl rfl (fun c_318 => absurd (by rw [if_neg hl]) (c_318)) (fun c_318 => ?_)
          refine pr_aload_n 322 dX9_go_321 rfl rfl rfl ?_
          refine pr_getI 325 dX9_go_322 fX9_21 rfl ?_
          rw [h1]
          refine pr_aload_n 326 dX9_go_325 rfl rfl rfl ?_
          refine pr_getI 329 dX9_go_326 fX9_24 rfl ?_
          rw [h2]
          refine pr_isub 330 dX9_go_329 rfl ?_
          rw [nI_subN (by omega), show Q + k - Q = k by omega]
          refine pr_iconst (4) 331 dX9_go_330 (by decide) rfl ?_
          refine pr_icmp_le 338 334 dX9_go_331 rfl rfl (fun c_331 => absurd (c_331) (fun z => h4' ((nI_leI (b := 4) (by omega) (by omega)).mp z))) (fun c_331 => ?_)
          refine pr_iconst (1) 335 dX9_go_334 (by decide) rfl ?_
          refine pr_goto 347 dX9_go_335 rfl ?_
          refine pr_putI 350 dX9_go_347 fX9_27 rfl ?_
          refine pr_return dX9_go_350 rfl ?_
          refine ⟨rfl, hg.u (by decide), done 1 ?_⟩
          rw [eK, if_neg hA2, if_neg (fun z => h4' z.2)]; rfl
    · have hA : ¬ aL B Q k = true := fun z => hG (by rw [gG2_L (aL_first hk z)]; exact z)
      have hA2 : ¬ aN B Q k = true := fun z => hG (by rw [gG2_N (by rw [aN_first hk z]; decide)]; exact z)
      refine pr_aload_n 313 dX9_go_312 rfl rfl rfl ?_
      refine pr_iload_n 314 dX9_go_313 rfl rfl rfl ?_
      refine pr_if_eq 334 317 dX9_go_314 rfl rfl (fun c_314 => ?_) (fun c_314 => absurd (by rw [if_neg hG]) (c_314))
      refine pr_iconst (1) 335 dX9_go_334 (by decide) rfl ?_
      refine pr_goto 347 dX9_go_335 rfl ?_
      refine pr_putI 350 dX9_go_347 fX9_27 rfl ?_
      refine pr_return dX9_go_350 rfl ?_
      refine ⟨rfl, hg.u (by decide), done 1 ?_⟩
      rw [eK, if_neg hA, if_neg (fun z => hA2 z.1)]; rfl
  have st3 : ¬ min T 800 ≤ Q → tQ B T p = Q → (isL (B Q) || isD (B Q)) = true → ∀ n k mem (a1 a4 : Option pm_v), Q + k + n = T → rn B T (Q + k) = rn B T Q → goF mem0 mem → mem.1 10009909 0 4 = nI (Q + k) → mem.1 10009909 0 5 = nI Q → mem.1 10009909 0 7 = nI (nv B Q k) → (aL B Q k = true → mem.2.1 10009909 0 10 = lN (wc B Q k)) → PR cX9_go RX9 5 1 21 177 [some (pR 10009909 0), a1, some (pI (if isL (B Q) = true then 1 else 0)), some (pI (if gG2 B Q k = true then 1 else 0)), a4] [] mem (pm_RX cX9_go none (fun r mem => r = none ∧ goF mem0 mem ∧ mtk mem B T p)) := by
    intro hQl hq hLD n
    have hr1 : Q + 1 ≤ rn B T Q := by
      rw [rn_s (by omega) hLD]
      exact (rn_ge (B := B) (n := T - (Q + 1)) (by omega)).1
    have stop : ∀ k mem (a1 a4 : Option pm_v), Q + k ≤ T → ¬ (Q + k < T ∧ (isL (B (Q + k)) || isD (B (Q + k))) = true) → rn B T (Q + k) = rn B T Q → goF mem0 mem → mem.1 10009909 0 4 = nI (Q + k) → mem.1 10009909 0 5 = nI Q → mem.1 10009909 0 7 = nI (nv B Q k) → (aL B Q k = true → mem.2.1 10009909 0 10 = lN (wc B Q k)) → PR cX9_go RX9 5 1 21 177 [some (pR 10009909 0), a1, some (pI (if isL (B Q) = true then 1 else 0)), some (pI (if gG2 B Q k = true then 1 else 0)), a4] [] mem (pm_RX cX9_go none (fun r mem => r = none ∧ goF mem0 mem ∧ mtk mem B T p)) := by
      intro k mem a1 a4 hk hn hr hg h1 h2 h3 h4
      have e0 : rn B T Q = Q + k := by rw [← hr, rn_e hn]
      have hs1 : mem.1 10009909 0 3 = nI T := by rw [hg.size]; exact hs
      have ht1 : ∀ k, k < T → mem.1 20840361 0 k = nI (B k) := by rw [hg.tape]; exact ht
      have hby : byt B T (Q + k) < 256 := by unfold byt; split; exact hB _; omega
      have n1 : ¬ isL (byt B T (Q + k)) = true := by
        unfold byt
        by_cases z : Q + k < T
        · rw [if_pos z]; exact fun y => hn ⟨z, by rw [y]; rfl⟩
        · rw [if_neg z]; decide
      have n2 : ¬ isD (byt B T (Q + k)) = true := by
        unfold byt
        by_cases z : Q + k < T
        · rw [if_pos z]; exact fun y => hn ⟨z, by rw [y]; simp⟩
        · rw [if_neg z]; decide
      refine pr_aload_n 178 dX9_go_177 rfl rfl rfl ?_
      refine pr_aload_n 179 dX9_go_178 rfl rfl rfl ?_
      refine pr_getI 182 dX9_go_179 fX9_21 rfl ?_
      rw [h1]
      refine pr_invD1 185 dX9_go_182 vX9_44 mX9_tapeAt (sp_X9_tapeAt hs1 ht1 hT hk) ⟨Nat.le_of_ble_eq_true rfl, Nat.le_of_ble_eq_true rfl⟩ (Nat.le_of_ble_eq_true rfl) rfl ?_
      refine pr_ivsD1 188 dX9_go_185 sX9_30 mX9_isLetter (sp_X9_isLetter hby) ⟨Nat.le_of_ble_eq_true rfl, Nat.le_of_ble_eq_true rfl⟩ (Nat.le_of_ble_eq_true rfl) rfl ?_
      refine pr_if_ne 205 191 dX9_go_188 rfl rfl (fun c_188 => absurd (by rw [if_neg n1]) (c_188)) (fun c_188 => ?_)
      refine pr_aload_n 192 dX9_go_191 rfl rfl rfl ?_
      refine pr_aload_n 193 dX9_go_192 rfl rfl rfl ?_
      refine pr_getI 196 dX9_go_193 fX9_21 rfl ?_
      rw [h1]
      refine pr_invD1 199 dX9_go_196 vX9_44 mX9_tapeAt (sp_X9_tapeAt hs1 ht1 hT hk) ⟨Nat.le_of_ble_eq_true rfl, Nat.le_of_ble_eq_true rfl⟩ (Nat.le_of_ble_eq_true rfl) rfl ?_
      refine pr_ivsD1 202 dX9_go_199 sX9_34 mX9_isDigit (sp_X9_isDigit hby) ⟨Nat.le_of_ble_eq_true rfl, Nat.le_of_ble_eq_true rfl⟩ (Nat.le_of_ble_eq_true rfl) rfl ?_
      refine pr_if_eq 312 205 dX9_go_202 rfl rfl (fun c_202 => ?_) (fun c_202 => absurd (by rw [if_neg n2]) (c_202))
      exact fin hQl hq hLD k mem _ _ (by omega) e0 hg h1 h2 h3 h4
    induction n with
    | zero =>
      intro k mem a1 a4 hk hr hg h1 h2 h3 h4
      exact stop k mem a1 a4 (by omega) (by omega) hr hg h1 h2 h3 h4
    | succ n ih =>
      intro k mem a1 a4 hk hr hg h1 h2 h3 h4
      by_cases hc : (isL (B (Q + k)) || isD (B (Q + k))) = true
      · have hs1 : mem.1 10009909 0 3 = nI T := by rw [hg.size]; exact hs
        have ht1 : ∀ k, k < T → mem.1 20840361 0 k = nI (B k) := by rw [hg.tape]; exact ht
        have eb : byt B T (Q + k) = B (Q + k) := by rw [byt, if_pos (by omega)]
        have hbk := hB (Q + k)
        have hge : 48 ≤ B (Q + k) := by
          simp [isL, isD] at hc
          omega
        have hr' : rn B T (Q + (k + 1)) = rn B T Q := by rw [← hr, rn_s (p := Q + k) (by omega) hc]; rfl
        -- what is behind the test: at 205
        have body : PR cX9_go RX9 5 1 21 205 [some (pR 10009909 0), a1, some (pI (if isL (B Q) = true then 1 else 0)), some (pI (if gG2 B Q k = true then 1 else 0)), a4] [] mem (pm_RX cX9_go none (fun r mem => r = none ∧ goF mem0 mem ∧ mtk mem B T p)) := by
          have tl : ∀ mem1, goF mem0 mem1 → mem1.1 10009909 0 4 = nI (Q + k) → mem1.1 10009909 0 5 = nI Q → mem1.1 10009909 0 7 = nI (nv B Q k) → (aL B Q (k + 1) = true → mem1.2.1 10009909 0 10 = lN (wc B Q (k + 1))) → PR cX9_go RX9 5 1 21 269 [some (pR 10009909 0), a1, some (pI (if isL (B Q) = true then 1 else 0)), some (pI (if gG2 B Q (k + 1) = true then 1 else 0)), some (pI (nI (B (Q + k))))] [] mem1 (pm_RX cX9_go none (fun r mem => r = none ∧ goF mem0 mem ∧ mtk mem B T p)) := by
            intro mem1 g1 b1 b2 b3 b4
            by_cases z : k < 4
            · refine pr_aload_n 270 dX9_go_269 rfl rfl rfl ?_
              refine pr_getI 273 dX9_go_270 fX9_21 rfl ?_
              rw [b1]
              refine pr_aload_n 274 dX9_go_273 rfl rfl rfl ?_
              refine pr_getI 277 dX9_go_274 fX9_24 rfl ?_
              rw [b2]
              refine pr_isub 278 dX9_go_277 rfl ?_
              rw [nI_subN (by omega), show Q + k - Q = k by omega]
              refine pr_iconst (4) 279 dX9_go_278 (by decide) rfl ?_
              refine pr_icmp_ge 299 282 dX9_go_279 rfl rfl (fun c_279 => absurd (c_279) (nI_ge (b := 4) z (by omega))) (fun c_279 => ?_)
              refine pr_aload_n 283 dX9_go_282 rfl rfl rfl ?_
              refine pr_bipush (10) 285 dX9_go_283 (by decide) rfl ?_
              refine pr_aload_n 286 dX9_go_285 rfl rfl rfl ?_
              refine pr_getI 289 dX9_go_286 fX9_41 rfl ?_
              rw [b3]
              refine pr_imul 290 dX9_go_289 rfl ?_
              rw [show (10 : Int32) = nI 10 from rfl, nI_mulN]
              refine pr_iload 292 dX9_go_290 rfl rfl ?_
              refine pr_iadd 293 dX9_go_292 rfl ?_
              rw [nI_add]
              refine pr_bipush (48) 295 dX9_go_293 (by decide) rfl ?_
              refine pr_isub 296 dX9_go_295 rfl ?_
              rw [show (48 : Int32) = nI 48 from rfl, nI_subN (by omega)]
              refine pr_putI 299 dX9_go_296 fX9_41 rfl ?_
              refine pr_aload_n 300 dX9_go_299 rfl rfl rfl ?_
              refine pr_dup rfl 301 dX9_go_300 rfl ?_
              refine pr_getI 304 dX9_go_301 fX9_21 rfl ?_
              rw [pm_gIn (by simp), b1]
              refine pr_iconst (1) 305 dX9_go_304 (by decide) rfl ?_
              refine pr_iadd 306 dX9_go_305 rfl ?_
              rw [nI_1]
              refine pr_putI 309 dX9_go_306 fX9_21 rfl ?_
              refine pr_goto 177 dX9_go_309 rfl ?_
              refine ih (k + 1) _ _ _ (by omega) hr' ((g1.u (by decide)).u (by decide)) (by rw [pm_gIe]; rfl) (by rw [pm_gIn (by simp), pm_gIn (by simp)]; exact b2) (by rw [pm_gIn (by simp), pm_gIe, nv, if_pos z]; congr 1; omega) b4
            · refine pr_aload_n 270 dX9_go_269 rfl rfl rfl ?_
              refine pr_getI 273 dX9_go_270 fX9_21 rfl ?_
              rw [b1]
              refine pr_aload_n 274 dX9_go_273 rfl rfl rfl ?_
              refine pr_getI 277 dX9_go_274 fX9_24 rfl ?_
              rw [b2]
              refine pr_isub 278 dX9_go_277 rfl ?_
              rw [nI_subN (by omega), show Q + k - Q = k by omega]
              refine pr_iconst (4) 279 dX9_go_278 (by decide) rfl ?_
              refine pr_icmp_ge 299 282 dX9_go_279 rfl rfl (fun c_279 => ?_) (fun c_279 => absurd ((nI_leI (a := 4) (by omega) (by omega)).mpr (by omega)) (c_279))
              refine pr_aload_n 300 dX9_go_299 rfl rfl rfl ?_
              refine pr_dup rfl 301 dX9_go_300 rfl ?_
              refine pr_getI 304 dX9_go_301 fX9_21 rfl ?_
              rw [b1]
              refine pr_iconst (1) 305 dX9_go_304 (by decide) rfl ?_
              refine pr_iadd 306 dX9_go_305 rfl ?_
              rw [nI_1]
              refine pr_putI 309 dX9_go_306 fX9_21 rfl ?_
              refine pr_goto 177 dX9_go_309 rfl ?_
              refine ih (k + 1) _ _ _ (by omega) hr' (g1.u (by decide)) (by rw [pm_gIe]; rfl) (by rw [pm_gIn (by simp)]; exact b2) (by rw [pm_gIn (by simp), nv, if_neg z]; exact b3) b4
          have md : PR cX9_go RX9 5 1 21 235 [some (pR 10009909 0), a1, some (pI (if isL (B Q) = true then 1 else 0)), some (pI (if gG2 B Q (k + 1) = true then 1 else 0)), some (pI (nI (B (Q + k))))] [] mem (pm_RX cX9_go none (fun r mem => r = none ∧ goF mem0 mem ∧ mtk mem B T p)) := by
            by_cases z : k < 6
            · refine pr_aload_n 236 dX9_go_235 rfl rfl rfl ?_
              refine pr_getI 239 dX9_go_236 fX9_21 rfl ?_
              rw [h1]
              refine pr_aload_n 240 dX9_go_239 rfl rfl rfl ?_
              refine pr_getI 243 dX9_go_240 fX9_24 rfl ?_
              rw [h2]
              refine pr_isub 244 dX9_go_243 rfl ?_
              rw [nI_subN (by omega), show Q + k - Q = k by omega]
              refine pr_bipush (6) 246 dX9_go_244 (by decide) rfl ?_
              refine pr_icmp_ge 269 249 dX9_go_246 rfl rfl (fun c_246 => absurd (c_246) (nI_ge (b := 6) z (by omega))) (fun c_246 => ?_)
              refine pr_aload_n 250 dX9_go_249 rfl rfl rfl ?_
              refine pr_ldc2 _ 253 dX9_go_250 kX9_48 rfl ?_
              refine pr_aload_n 254 dX9_go_253 rfl rfl rfl ?_
              refine pr_getJ 257 dX9_go_254 fX9_37 rfl ?_
              refine pr_lmul 258 dX9_go_257 rfl ?_
              refine pr_iload 260 dX9_go_258 rfl rfl ?_
              refine pr_i2l 261 dX9_go_260 rfl ?_
              rw [nI_l (by omega)]
              refine pr_ladd 262 dX9_go_261 rfl ?_
              refine pr_ldc2 _ 265 dX9_go_262 kX9_50 rfl ?_
              refine pr_lsub 266 dX9_go_265 rfl ?_
              refine pr_putJ 269 dX9_go_266 fX9_37 rfl ?_
              refine tl _ hg.w h1 h2 h3 (fun ha => ?_)
              have ha1 : aL B Q k = true ∧ isL (B (Q + k)) = true := by rw [aL] at ha; simpa using ha
              have hx : 97 ≤ B (Q + k) := by have := ha1.2; simp [isL] at this; omega
              rw [pm_gJe, h4 ha1.1, wc, if_pos z, show (27 : Int64) = lN 27 from rfl, show (96 : Int64) = lN 96 from rfl, lN_mul, lN_add, lN_sub (by omega)]
              congr 1
              omega
            · refine pr_aload_n 236 dX9_go_235 rfl rfl rfl ?_
              refine pr_getI 239 dX9_go_236 fX9_21 rfl ?_
              rw [h1]
              refine pr_aload_n 240 dX9_go_239 rfl rfl rfl ?_
              refine pr_getI 243 dX9_go_240 fX9_24 rfl ?_
              rw [h2]
              refine pr_isub 244 dX9_go_243 rfl ?_
              rw [nI_subN (by omega), show Q + k - Q = k by omega]
              refine pr_bipush (6) 246 dX9_go_244 (by decide) rfl ?_
              refine pr_icmp_ge 269 249 dX9_go_246 rfl rfl (fun c_246 => ?_) (fun c_246 => absurd ((nI_leI (a := 6) (by omega) (by omega)).mpr (by omega)) (c_246))
              refine tl _ hg h1 h2 h3 (fun ha => ?_)
              have ha1 : aL B Q k = true ∧ isL (B (Q + k)) = true := by rw [aL] at ha; simpa using ha
              rw [h4 ha1.1, wc, if_neg z]
          have hGs := gG2_s B Q k
          by_cases hG : gG2 B Q k = true
          · by_cases hl : isL (B (Q + k)) = isL (B Q)
            · have hG' : gG2 B Q (k + 1) = true := by rw [hGs, hG, hl]; simp
              rw [hG'] at md
              refine pr_aload_n 206 dX9_go_205 rfl rfl rfl ?_
              refine pr_getR0 209 dX9_go_206 fX9_7 rfl ?_
              refine pr_aload_n 210 dX9_go_209 rfl rfl rfl ?_
              refine pr_getI 213 dX9_go_210 fX9_21 rfl ?_
              rw [h1]
              refine pr_iaload (Q + k) 214 dX9_go_213 rfl rfl rfl (by omega) rfl ?_
              rw [ht1 (Q + k) (by omega)]
              refine pr_istore 216 dX9_go_214 (pm_st_4 rfl rfl) rfl ?_
              refine pr_iload_n 217 dX9_go_216 rfl rfl rfl ?_
              refine pr_if_eq 233 220 dX9_go_217 rfl rfl (fun c_217 => absurd (c_217) (by rw [if_pos hG]; decide)) (fun c_217 => ?_)
              refine pr_iload 222 dX9_go_220 rfl rfl ?_
              refine pr_ivsD1 225 dX9_go_222 sX9_30 mX9_isLetter (sp_X9_isLetter hbk) ⟨Nat.le_of_ble_eq_true rfl, Nat.le_of_ble_eq_true rfl⟩ (Nat.le_of_ble_eq_true rfl) rfl ?_
              refine pr_iload_n 226 dX9_go_225 rfl rfl rfl ?_
              refine pr_icmp_ne 233 229 dX9_go_226 rfl rfl (fun c_226 => absurd (by rw [hl]) (c_226)) (fun c_226 => ?_)
              refine pr_iconst (1) 230 dX9_go_229 (by decide) rfl ?_
              refine pr_goto 234 dX9_go_230 rfl ?_
              refine pr_istore_n 235 dX9_go_234 rfl (pm_st_3 rfl rfl) rfl ?_
              exact md
            · have hG' : gG2 B Q (k + 1) = false := by rw [hGs, hG]; simp [hl]
              rw [hG'] at md
              refine pr_aload_n 206 dX9_go_205 rfl rfl rfl ?_
              refine pr_getR0 209 dX9_go_206 fX9_7 rfl ?_
              refine pr_aload_n 210 dX9_go_209 rfl rfl rfl ?_
              refine pr_getI 213 dX9_go_210 fX9_21 rfl ?_
              rw [h1]
              refine pr_iaload (Q + k) 214 dX9_go_213 rfl rfl rfl (by omega) rfl ?_
              rw [ht1 (Q + k) (by omega)]
              refine pr_istore 216 dX9_go_214 (pm_st_4 rfl rfl) rfl ?_
              refine pr_iload_n 217 dX9_go_216 rfl rfl rfl ?_
              refine pr_if_eq 233 220 dX9_go_217 rfl rfl (fun c_217 => absurd (c_217) (by rw [if_pos hG]; decide)) (fun c_217 => ?_)
              refine pr_iload 222 dX9_go_220 rfl rfl ?_
              refine pr_ivsD1 225 dX9_go_222 sX9_30 mX9_isLetter (sp_X9_isLetter hbk) ⟨Nat.le_of_ble_eq_true rfl, Nat.le_of_ble_eq_true rfl⟩ (Nat.le_of_ble_eq_true rfl) rfl ?_
              refine pr_iload_n 226 dX9_go_225 rfl rfl rfl ?_
              refine pr_icmp_ne 233 229 dX9_go_226 rfl rfl (fun c_226 => ?_) (fun c_226 => absurd (c_226) (by revert hl; cases isL (B (Q + k)) <;> cases isL (B Q) <;> decide))
              refine pr_iconst (0) 234 dX9_go_233 (by decide) rfl ?_
              refine pr_istore_n 235 dX9_go_234 rfl (pm_st_3 rfl rfl) rfl ?_
              exact md
          · have hG' : gG2 B Q (k + 1) = false := by rw [hGs]; simp [hG]
            rw [hG'] at md
            refine pr_aload_n 206 dX9_go_205 rfl rfl rfl ?_
            refine pr_getR0 209 dX9_go_206 fX9_7 rfl ?_
            refine pr_aload_n 210 dX9_go_209 rfl rfl rfl ?_
            refine pr_getI 213 dX9_go_210 fX9_21 rfl ?_
            rw [h1]
            refine pr_iaload (Q + k) 214 dX9_go_213 rfl rfl rfl (by omega) rfl ?_
            rw [ht1 (Q + k) (by omega)]
            refine pr_istore 216 dX9_go_214 (pm_st_4 rfl rfl) rfl ?_
            refine pr_iload_n 217 dX9_go_216 rfl rfl rfl ?_
            refine pr_if_eq 233 220 dX9_go_217 rfl rfl (fun c_217 => ?_) (fun c_217 => absurd (by rw [if_neg hG]) (c_217))
            refine pr_iconst (0) 234 dX9_go_233 (by decide) rfl ?_
            refine pr_istore_n 235 dX9_go_234 rfl (pm_st_3 rfl rfl) rfl ?_
            exact md
        by_cases hl : isL (B (Q + k)) = true
        · refine pr_aload_n 178 dX9_go_177 rfl rfl rfl ?_
          refine pr_aload_n 179 dX9_go_178 rfl rfl rfl ?_
          refine pr_getI 182 dX9_go_179 fX9_21 rfl ?_
          rw [h1]
          refine pr_invD1 185 dX9_go_182 vX9_44 mX9_tapeAt (sp_X9_tapeAt hs1 ht1 hT (by omega)) ⟨Nat.le_of_ble_eq_true rfl, Nat.le_of_ble_eq_true rfl⟩ (Nat.le_of_ble_eq_true rfl) rfl ?_
          rw [eb]
          refine pr_ivsD1 188 dX9_go_185 sX9_30 mX9_isLetter (sp_X9_isLetter hbk) ⟨Nat.le_of_ble_eq_true rfl, Nat.le_of_ble_eq_true rfl⟩ (Nat.le_of_ble_eq_true rfl) rfl ?_
          refine pr_if_ne 205 191 dX9_go_188 rfl rfl (fun c_188 => ?_) (fun c_188 => absurd (c_188) (by rw [if_pos hl]; decide))
          exact body
        · have hd : isD (B (Q + k)) = true := by simpa [hl] using hc
          refine pr_aload_n 178 dX9_go_177 rfl rfl rfl ?_
          refine pr_aload_n 179 dX9_go_178 rfl rfl rfl ?_
          refine pr_getI 182 dX9_go_179 fX9_21 rfl ?_
          rw [h1]
          refine pr_invD1 185 dX9_go_182 vX9_44 mX9_tapeAt (sp_X9_tapeAt hs1 ht1 hT (by omega)) ⟨Nat.le_of_ble_eq_true rfl, Nat.le_of_ble_eq_true rfl⟩ (Nat.le_of_ble_eq_true rfl) rfl ?_
          rw [eb]
          refine pr_ivsD1 188 dX9_go_185 sX9_30 mX9_isLetter (sp_X9_isLetter hbk) ⟨Nat.le_of_ble_eq_true rfl, Nat.le_of_ble_eq_true rfl⟩ (Nat.le_of_ble_eq_true rfl) rfl ?_
          refine pr_if_ne 205 191 dX9_go_188 rfl rfl (fun c_188 => absurd (by rw [if_neg hl]) (c_188)) (fun c_188 => ?_)
          refine pr_aload_n 192 dX9_go_191 rfl rfl rfl ?_
          refine pr_aload_n 193 dX9_go_192 rfl rfl rfl ?_
          refine pr_getI 196 dX9_go_193 fX9_21 rfl ?_
          rw [h1]
          refine pr_invD1 199 dX9_go_196 vX9_44 mX9_tapeAt (sp_X9_tapeAt hs1 ht1 hT (by omega)) ⟨Nat.le_of_ble_eq_true rfl, Nat.le_of_ble_eq_true rfl⟩ (Nat.le_of_ble_eq_true rfl) rfl ?_
          rw [eb]
          refine pr_ivsD1 202 dX9_go_199 sX9_34 mX9_isDigit (sp_X9_isDigit hbk) ⟨Nat.le_of_ble_eq_true rfl, Nat.le_of_ble_eq_true rfl⟩ (Nat.le_of_ble_eq_true rfl) rfl ?_
          refine pr_if_eq 312 205 dX9_go_202 rfl rfl (fun c_202 => absurd (c_202) (by rw [if_pos hd]; decide)) (fun c_202 => ?_)
          exact body
      · exact stop k mem a1 a4 (by omega) (fun z => hc z.2) hr hg h1 h2 h3 h4
  have st2 : ∀ mem, goF mem0 mem → mem.1 10009909 0 4 = nI Q → PR cX9_go RX9 5 1 21 52 [some (pR 10009909 0), none, none, none, none] [] mem (pm_RX cX9_go none (fun r mem => r = none ∧ goF mem0 mem ∧ mtk mem B T p)) := by
    intro mem hg h1
    have hs1 : mem.1 10009909 0 3 = nI T := by rw [hg.size]; exact hs
    have ht1 : ∀ k, k < T → mem.1 20840361 0 k = nI (B k) := by rw [hg.tape]; exact ht
    by_cases c1 : 800 < T ∧ 800 ≤ Q
    · have eQ : min T 800 ≤ tQ B T p := hL.2 (by omega)
      have eK : tK B T p = 0 := by rw [tK, if_pos eQ]
      refine pr_aload_n 53 dX9_go_52 rfl rfl rfl ?_
      refine pr_aload_n 54 dX9_go_53 rfl rfl rfl ?_
      refine pr_getI 57 dX9_go_54 fX9_21 rfl ?_
      rw [h1]
      refine pr_putI 60 dX9_go_57 fX9_24 rfl ?_
      refine pr_aload_n 61 dX9_go_60 rfl rfl rfl ?_
      refine pr_getI 64 dX9_go_61 fX9_18 rfl ?_
      rw [pm_gIn (by simp), hs1]
      refine pr_sipush (800) 67 dX9_go_64 (by decide) rfl ?_
      refine pr_icmp_le 93 70 dX9_go_67 rfl rfl (fun c_67 => absurd (c_67) (fun z => by have := (nI_leI (b := 800) (by omega) (by omega)).mp z; omega)) (fun c_67 => ?_)
      refine pr_aload_n 71 dX9_go_70 rfl rfl rfl ?_
      refine pr_getI 74 dX9_go_71 fX9_24 rfl ?_
      rw [pm_gIe]
      refine pr_sipush (800) 77 dX9_go_74 (by decide) rfl ?_
      refine pr_icmp_lt 93 80 dX9_go_77 rfl rfl (fun c_77 => absurd (c_77) (nI_nlt (b := 800) (by omega) (by omega))) (fun c_77 => ?_)
      refine pr_aload_n 81 dX9_go_80 rfl rfl rfl ?_
      refine pr_sipush (800) 84 dX9_go_81 (by decide) rfl ?_
      refine pr_putI 87 dX9_go_84 fX9_24 rfl ?_
      refine pr_aload_n 88 dX9_go_87 rfl rfl rfl ?_
      refine pr_iconst (1) 89 dX9_go_88 (by decide) rfl ?_
      refine pr_putI 92 dX9_go_89 fX9_27 rfl ?_
      refine pr_return dX9_go_92 rfl ?_
      refine ⟨rfl, ((hg.u (by decide)).u (by decide)).u (by decide), ?_⟩
      refine ⟨by rw [pm_gIe, eK, msort, if_pos rfl, if_neg (by omega)]; rfl, by rw [pm_gIn (by simp), pm_gIe, tS, show min (tQ B T p) (min T 800) = 800 by omega]; rfl, fun z => by omega, fun z => by omega, fun z => by omega⟩
    · have pre : ∀ X, PR cX9_go RX9 5 1 21 93 [some (pR 10009909 0), none, none, none, none] [] (pm_uI mem 10009909 0 5 (nI Q)) X → PR cX9_go RX9 5 1 21 52 [some (pR 10009909 0), none, none, none, none] [] mem X := by
        intro X hx
        by_cases c2 : T ≤ 800
        · refine pr_aload_n 53 dX9_go_52 rfl rfl rfl ?_
          refine pr_aload_n 54 dX9_go_53 rfl rfl rfl ?_
          refine pr_getI 57 dX9_go_54 fX9_21 rfl ?_
          rw [h1]
          refine pr_putI 60 dX9_go_57 fX9_24 rfl ?_
          refine pr_aload_n 61 dX9_go_60 rfl rfl rfl ?_
          refine pr_getI 64 dX9_go_61 fX9_18 rfl ?_
          rw [pm_gIn (by simp), hs1]
          refine pr_sipush (800) 67 dX9_go_64 (by decide) rfl ?_
          refine pr_icmp_le 93 70 dX9_go_67 rfl rfl (fun c_67 => ?_) (fun c_67 => absurd ((nI_leI (b := 800) (by omega) (by omega)).mpr c2) (c_67))
          exact hx
        · refine pr_aload_n 53 dX9_go_52 rfl rfl rfl ?_
          refine pr_aload_n 54 dX9_go_53 rfl rfl rfl ?_
          refine pr_getI 57 dX9_go_54 fX9_21 rfl ?_
          rw [h1]
          refine pr_putI 60 dX9_go_57 fX9_24 rfl ?_
          refine pr_aload_n 61 dX9_go_60 rfl rfl rfl ?_
          refine pr_getI 64 dX9_go_61 fX9_18 rfl ?_
          rw [pm_gIn (by simp), hs1]
          refine pr_sipush (800) 67 dX9_go_64 (by decide) rfl ?_
          refine pr_icmp_le 93 70 dX9_go_67 rfl rfl (fun c_67 => absurd (c_67) (fun z => by have := (nI_leI (b := 800) (by omega) (by omega)).mp z; omega)) (fun c_67 => ?_)
          refine pr_aload_n 71 dX9_go_70 rfl rfl rfl ?_
          refine pr_getI 74 dX9_go_71 fX9_24 rfl ?_
          rw [pm_gIe]
          refine pr_sipush (800) 77 dX9_go_74 (by decide) rfl ?_
          refine pr_icmp_lt 93 80 dX9_go_77 rfl rfl (fun c_77 => ?_) (fun c_77 => absurd (nI_lt (b := 800) (by omega) (by omega)) (c_77))
          exact hx
      refine pre _ ?_
      have hg1 : goF mem0 (pm_uI mem 10009909 0 5 (nI Q)) := hg.u (by decide)
      by_cases c3 : Q < T
      · have hQl : ¬ min T 800 ≤ Q := by omega
        have hq : tQ B T p = Q := hL.1 (by omega)
        have eS : tS B T p = Q := by rw [tS, hq]; omega
        have hbQ := hB Q
        by_cases hLD : (isL (B Q) || isD (B Q)) = true
        · have big : ∀ a4 : Option pm_v, PR cX9_go RX9 5 1 21 160 [some (pR 10009909 0), some (pI (nI (B Q))), none, none, none] [] (pm_uI mem 10009909 0 5 (nI Q)) (pm_RX cX9_go none (fun r mem => r = none ∧ goF mem0 mem ∧ mtk mem B T p)) := by
            intro a4
            refine pr_iload_n 161 dX9_go_160 rfl rfl rfl ?_
            refine pr_ivsD1 164 dX9_go_161 sX9_30 mX9_isLetter (sp_X9_isLetter hbQ) ⟨Nat.le_of_ble_eq_true rfl, Nat.le_of_ble_eq_true rfl⟩ (Nat.le_of_ble_eq_true rfl) rfl ?_
            refine pr_istore_n 165 dX9_go_164 rfl (pm_st_2 rfl rfl) rfl ?_
            refine pr_iconst (1) 166 dX9_go_165 (by decide) rfl ?_
            refine pr_istore_n 167 dX9_go_166 rfl (pm_st_3 rfl rfl) rfl ?_
            refine pr_aload_n 168 dX9_go_167 rfl rfl rfl ?_
            refine pr_lconst (0) 169 dX9_go_168 (by decide) rfl ?_
            refine pr_putJ 172 dX9_go_169 fX9_37 rfl ?_
            refine pr_aload_n 173 dX9_go_172 rfl rfl rfl ?_
            refine pr_iconst (0) 174 dX9_go_173 (by decide) rfl ?_
            refine pr_putI 177 dX9_go_174 fX9_41 rfl ?_
            have h0 : gG2 B Q 0 = true := by unfold gG2; split <;> rfl
            have := st3 hQl hq hLD (T - Q) 0 (pm_uI (pm_uJ (pm_uI mem 10009909 0 5 (nI Q)) 10009909 0 10 0) 10009909 0 7 0) (some (pI (nI (B Q)))) none (by omega) rfl (hg1.w.u (by decide)) (by rw [pm_gIn (by simp), pm_gIJ, pm_gIn (by simp)]; exact h1) (by rw [pm_gIn (by simp), pm_gIJ, pm_gIe]) (by rw [pm_gIe]; rfl) (fun _ => by rw [pm_gJI, pm_gJe]; rfl)
            rw [if_pos h0] at this
            exact this
          by_cases hl : isL (B Q) = true
          · refine pr_aload_n 94 dX9_go_93 rfl rfl rfl ?_
            refine pr_getI 97 dX9_go_94 fX9_21 rfl ?_
            rw [pm_gIn (by simp), h1]
            refine pr_aload_n 98 dX9_go_97 rfl rfl rfl ?_
            refine pr_getI 101 dX9_go_98 fX9_18 rfl ?_
            rw [pm_gIn (by simp), hs1]
            refine pr_icmp_lt 110 104 dX9_go_101 rfl rfl (fun c_101 => ?_) (fun c_101 => absurd (nI_lt c3 (by omega)) (c_101))
            refine pr_aload_n 111 dX9_go_110 rfl rfl rfl ?_
            refine pr_getR0 114 dX9_go_111 fX9_7 rfl ?_
            refine pr_aload_n 115 dX9_go_114 rfl rfl rfl ?_
            refine pr_getI 118 dX9_go_115 fX9_21 rfl ?_
            rw [pm_gIn (by simp), h1]
            refine pr_iaload Q 119 dX9_go_118 rfl rfl rfl (by omega) rfl ?_
            rw [pm_gIn (by simp), ht1 Q c3]
            refine pr_istore_n 120 dX9_go_119 rfl (pm_st_1 rfl rfl) rfl ?_
            refine pr_iload_n 121 dX9_go_120 rfl rfl rfl ?_
            refine pr_ivsD1 124 dX9_go_121 sX9_30 mX9_isLetter (sp_X9_isLetter hbQ) ⟨Nat.le_of_ble_eq_true rfl, Nat.le_of_ble_eq_true rfl⟩ (Nat.le_of_ble_eq_true rfl) rfl ?_
            refine pr_if_ne 160 127 dX9_go_124 rfl rfl (fun c_124 => ?_) (fun c_124 => absurd (c_124) (by rw [if_pos hl]; decide))
            exact big none
          · have hd : isD (B Q) = true := by simpa [hl] using hLD
            refine pr_aload_n 94 dX9_go_93 rfl rfl rfl ?_
            refine pr_getI 97 dX9_go_94 fX9_21 rfl ?_
            rw [pm_gIn (by simp), h1]
            refine pr_aload_n 98 dX9_go_97 rfl rfl rfl ?_
            refine pr_getI 101 dX9_go_98 fX9_18 rfl ?_
            rw [pm_gIn (by simp), hs1]
            refine pr_icmp_lt 110 104 dX9_go_101 rfl rfl (fun c_101 => ?_) (fun c_101 => absurd (nI_lt c3 (by omega)) (c_101))
            refine pr_aload_n 111 dX9_go_110 rfl rfl rfl ?_
            refine pr_getR0 114 dX9_go_111 fX9_7 rfl ?_
            refine pr_aload_n 115 dX9_go_114 rfl rfl rfl ?_
            refine pr_getI 118 dX9_go_115 fX9_21 rfl ?_
            rw [pm_gIn (by simp), h1]
            refine pr_iaload Q 119 dX9_go_118 rfl rfl rfl (by omega) rfl ?_
            rw [pm_gIn (by simp), ht1 Q c3]
            refine pr_istore_n 120 dX9_go_119 rfl (pm_st_1 rfl rfl) rfl ?_
            refine pr_iload_n 121 dX9_go_120 rfl rfl rfl ?_
            refine pr_ivsD1 124 dX9_go_121 sX9_30 mX9_isLetter (sp_X9_isLetter hbQ) ⟨Nat.le_of_ble_eq_true rfl, Nat.le_of_ble_eq_true rfl⟩ (Nat.le_of_ble_eq_true rfl) rfl ?_
            refine pr_if_ne 160 127 dX9_go_124 rfl rfl (fun c_124 => absurd (by rw [if_neg hl]) (c_124)) (fun c_124 => ?_)
            refine pr_iload_n 128 dX9_go_127 rfl rfl rfl ?_
            refine pr_ivsD1 131 dX9_go_128 sX9_34 mX9_isDigit (sp_X9_isDigit hbQ) ⟨Nat.le_of_ble_eq_true rfl, Nat.le_of_ble_eq_true rfl⟩ (Nat.le_of_ble_eq_true rfl) rfl ?_
            refine pr_if_ne 160 134 dX9_go_131 rfl rfl (fun c_131 => ?_) (fun c_131 => absurd (c_131) (by rw [if_pos hd]; decide))
            exact big none
        · have n1 : ¬ isL (B Q) = true := fun z => hLD (by rw [z]; rfl)
          have n2 : ¬ isD (B Q) = true := fun z => hLD (by rw [z]; simp)
          have hre : rn B T Q = Q := rn_e (fun z => hLD z.2)
          by_cases h59 : B Q = 59
          · have eK : tK B T p = 3 := by rw [tK, hq, if_neg hQl, if_pos h59]
            have eN : tN B T p = Q + 1 := by rw [tN, hq, if_pos h59]
            refine pr_aload_n 94 dX9_go_93 rfl rfl rfl ?_
            refine pr_getI 97 dX9_go_94 fX9_21 rfl ?_
            rw [pm_gIn (by simp), h1]
            refine pr_aload_n 98 dX9_go_97 rfl rfl rfl ?_
            refine pr_getI 101 dX9_go_98 fX9_18 rfl ?_
            rw [pm_gIn (by simp), hs1]
            refine pr_icmp_lt 110 104 dX9_go_101 rfl rfl (fun c_101 => ?_) (fun c_101 => absurd (nI_lt c3 (by omega)) (c_101))
            refine pr_aload_n 111 dX9_go_110 rfl rfl rfl ?_
            refine pr_getR0 114 dX9_go_111 fX9_7 rfl ?_
            refine pr_aload_n 115 dX9_go_114 rfl rfl rfl ?_
            refine pr_getI 118 dX9_go_115 fX9_21 rfl ?_
            rw [pm_gIn (by simp), h1]
            refine pr_iaload Q 119 dX9_go_118 rfl rfl rfl (by omega) rfl ?_
            rw [pm_gIn (by simp), ht1 Q c3]
            refine pr_istore_n 120 dX9_go_119 rfl (pm_st_1 rfl rfl) rfl ?_
            refine pr_iload_n 121 dX9_go_120 rfl rfl rfl ?_
            refine pr_ivsD1 124 dX9_go_121 sX9_30 mX9_isLetter (sp_X9_isLetter hbQ) ⟨Nat.le_of_ble_eq_true rfl, Nat.le_of_ble_eq_true rfl⟩ (Nat.le_of_ble_eq_true rfl) rfl ?_
            refine pr_if_ne 160 127 dX9_go_124 rfl rfl (fun c_124 => absurd (by rw [if_neg n1]) (c_124)) (fun c_124 => ?_)
            refine pr_iload_n 128 dX9_go_127 rfl rfl rfl ?_
            refine pr_ivsD1 131 dX9_go_128 sX9_34 mX9_isDigit (sp_X9_isDigit hbQ) ⟨Nat.le_of_ble_eq_true rfl, Nat.le_of_ble_eq_true rfl⟩ (Nat.le_of_ble_eq_true rfl) rfl ?_
            refine pr_if_ne 160 134 dX9_go_131 rfl rfl (fun c_131 => absurd (by rw [if_neg n2]) (c_131)) (fun c_131 => ?_)
            refine pr_aload_n 135 dX9_go_134 rfl rfl rfl ?_
            refine pr_iload_n 136 dX9_go_135 rfl rfl rfl ?_
            refine pr_bipush (59) 138 dX9_go_136 (by decide) rfl ?_
            refine pr_icmp_ne 145 141 dX9_go_138 rfl rfl (fun c_138 => absurd (by rw [h59]; rfl) (c_138)) (fun c_138 => ?_)
            refine pr_iconst (4) 142 dX9_go_141 (by decide) rfl ?_
            refine pr_goto 146 dX9_go_142 rfl ?_
            refine pr_putI 149 dX9_go_146 fX9_27 rfl ?_
            refine pr_aload_n 150 dX9_go_149 rfl rfl rfl ?_
            refine pr_dup rfl 151 dX9_go_150 rfl ?_
            refine pr_getI 154 dX9_go_151 fX9_21 rfl ?_
            rw [pm_gIn (by simp), pm_gIn (by simp), h1]
            refine pr_iconst (1) 155 dX9_go_154 (by decide) rfl ?_
            refine pr_iadd 156 dX9_go_155 rfl ?_
            rw [nI_1]
            refine pr_putI 159 dX9_go_156 fX9_21 rfl ?_
            refine pr_return dX9_go_159 rfl ?_
            refine ⟨rfl, (hg1.u (by decide)).u (by decide), by rw [pm_gIn (by simp), pm_gIe, eK]; rfl, by rw [pm_gIn (by simp), pm_gIn (by simp), pm_gIe, eS], fun _ => by rw [pm_gIe, eN], fun z => by omega, fun z => by omega⟩
          · have eK : tK B T p = 1 := by rw [tK, hq, if_neg hQl, if_neg h59, if_pos hre]
            refine pr_aload_n 94 dX9_go_93 rfl rfl rfl ?_
            refine pr_getI 97 dX9_go_94 fX9_21 rfl ?_
            rw [pm_gIn (by simp), h1]
            refine pr_aload_n 98 dX9_go_97 rfl rfl rfl ?_
            refine pr_getI 101 dX9_go_98 fX9_18 rfl ?_
            rw [pm_gIn (by simp), hs1]
            refine pr_icmp_lt 110 104 dX9_go_101 rfl rfl (fun c_101 => ?_) (fun c_101 => absurd (nI_lt c3 (by omega)) (c_101))
            refine pr_aload_n 111 dX9_go_110 rfl rfl rfl ?_
            refine pr_getR0 114 dX9_go_111 fX9_7 rfl ?_
            refine pr_aload_n 115 dX9_go_114 rfl rfl rfl ?_
            refine pr_getI 118 dX9_go_115 fX9_21 rfl ?_
            rw [pm_gIn (by simp), h1]
            refine pr_iaload Q 119 dX9_go_118 rfl rfl rfl (by omega) rfl ?_
            rw [pm_gIn (by simp), ht1 Q c3]
            refine pr_istore_n 120 dX9_go_119 rfl (pm_st_1 rfl rfl) rfl ?_
            refine pr_iload_n 121 dX9_go_120 rfl rfl rfl ?_
            refine pr_ivsD1 124 dX9_go_121 sX9_30 mX9_isLetter (sp_X9_isLetter hbQ) ⟨Nat.le_of_ble_eq_true rfl, Nat.le_of_ble_eq_true rfl⟩ (Nat.le_of_ble_eq_true rfl) rfl ?_
            refine pr_if_ne 160 127 dX9_go_124 rfl rfl (fun c_124 => absurd (by rw [if_neg n1]) (c_124)) (fun c_124 => ?_)
            refine pr_iload_n 128 dX9_go_127 rfl rfl rfl ?_
            refine pr_ivsD1 131 dX9_go_128 sX9_34 mX9_isDigit (sp_X9_isDigit hbQ) ⟨Nat.le_of_ble_eq_true rfl, Nat.le_of_ble_eq_true rfl⟩ (Nat.le_of_ble_eq_true rfl) rfl ?_
            refine pr_if_ne 160 134 dX9_go_131 rfl rfl (fun c_131 => absurd (by rw [if_neg n2]) (c_131)) (fun c_131 => ?_)
            refine pr_aload_n 135 dX9_go_134 rfl rfl rfl ?_
            refine pr_iload_n 136 dX9_go_135 rfl rfl rfl ?_
            refine pr_bipush (59) 138 dX9_go_136 (by decide) rfl ?_
            refine pr_icmp_ne 145 141 dX9_go_138 rfl rfl (fun c_138 => ?_) (fun c_138 => absurd (c_138) (fun z => h59 ((nI_eq (b := 59) (by omega) (by omega)).mp z)))
            refine pr_iconst (1) 146 dX9_go_145 (by decide) rfl ?_
            refine pr_putI 149 dX9_go_146 fX9_27 rfl ?_
            refine pr_aload_n 150 dX9_go_149 rfl rfl rfl ?_
            refine pr_dup rfl 151 dX9_go_150 rfl ?_
            refine pr_getI 154 dX9_go_151 fX9_21 rfl ?_
            rw [pm_gIn (by simp), pm_gIn (by simp), h1]
            refine pr_iconst (1) 155 dX9_go_154 (by decide) rfl ?_
            refine pr_iadd 156 dX9_go_155 rfl ?_
            rw [nI_1]
            refine pr_putI 159 dX9_go_156 fX9_21 rfl ?_
            refine pr_return dX9_go_159 rfl ?_
            refine ⟨rfl, (hg1.u (by decide)).u (by decide), by rw [pm_gIn (by simp), pm_gIe, eK]; rfl, by rw [pm_gIn (by simp), pm_gIn (by simp), pm_gIe, eS], fun z => by omega, fun z => by omega, fun z => by omega⟩
      · have eQ : min T 800 ≤ tQ B T p := hL.2 (by omega)
        have eK : tK B T p = 0 := by rw [tK, if_pos eQ]
        refine pr_aload_n 94 dX9_go_93 rfl rfl rfl ?_
        refine pr_getI 97 dX9_go_94 fX9_21 rfl ?_
        rw [pm_gIn (by simp), h1]
        refine pr_aload_n 98 dX9_go_97 rfl rfl rfl ?_
        refine pr_getI 101 dX9_go_98 fX9_18 rfl ?_
        rw [pm_gIn (by simp), hs1]
        refine pr_icmp_lt 110 104 dX9_go_101 rfl rfl (fun c_101 => absurd (c_101) (nI_nlt (by omega) (by omega))) (fun c_101 => ?_)
        refine pr_aload_n 105 dX9_go_104 rfl rfl rfl ?_
        refine pr_iconst (0) 106 dX9_go_105 (by decide) rfl ?_
        refine pr_putI 109 dX9_go_106 fX9_27 rfl ?_
        refine pr_return dX9_go_109 rfl ?_
        refine ⟨rfl, hg1.u (by decide), by rw [pm_gIe, eK, msort, if_pos rfl, if_pos (by omega)]; rfl, by rw [pm_gIn (by simp), pm_gIe, tS, show min (tQ B T p) (min T 800) = Q by omega], fun z => by omega, fun z => by omega, fun z => by omega⟩
  have st1 : ∀ n p' mem, p' + n = T → sk B T p' = Q → goF mem0 mem → mem.1 10009909 0 4 = nI p' → PR cX9_go RX9 5 1 21 0 [some (pR 10009909 0), none, none, none, none] [] mem (pm_RX cX9_go none (fun r mem => r = none ∧ goF mem0 mem ∧ mtk mem B T p)) := by
    intro n
    induction n with
    | zero =>
      intro p' mem hn hk hg h1
      have hs1 : mem.1 10009909 0 3 = nI T := by rw [hg.size]; exact hs
      have e : p' = Q := by rw [← hk, sk_e (by omega)]
      refine pr_aload_n 1 dX9_go_0 rfl rfl rfl ?_
      refine pr_getI 4 dX9_go_1 fX9_21 rfl ?_
      rw [h1]
      refine pr_aload_n 5 dX9_go_4 rfl rfl rfl ?_
      refine pr_getI 8 dX9_go_5 fX9_18 rfl ?_
      rw [hs1]
      refine pr_icmp_ge 52 11 dX9_go_8 rfl rfl (fun c_8 => ?_) (fun c_8 => absurd ((nI_leI (by omega) (by omega)).mpr (by omega)) (c_8))
      exact st2 mem hg (by rw [← e]; exact h1)
    | succ n ih =>
      intro p' mem hn hk hg h1
      have hs1 : mem.1 10009909 0 3 = nI T := by rw [hg.size]; exact hs
      have ht1 : ∀ k, k < T → mem.1 20840361 0 k = nI (B k) := by rw [hg.tape]; exact ht
      have hbp := hB p'
      have e32 : nI (B p') = 32 ↔ B p' = 32 := nI_eq (b := 32) (by omega) (by omega)
      have e10 : nI (B p') = 10 ↔ B p' = 10 := nI_eq (b := 10) (by omega) (by omega)
      have lp : isB (B p') = true → PR cX9_go RX9 5 1 21 39 [some (pR 10009909 0), none, none, none, none] [] mem (pm_RX cX9_go none (fun r mem => r = none ∧ goF mem0 mem ∧ mtk mem B T p)) := by
        intro hb
        refine pr_aload_n 40 dX9_go_39 rfl rfl rfl ?_
        refine pr_dup rfl 41 dX9_go_40 rfl ?_
        refine pr_getI 44 dX9_go_41 fX9_21 rfl ?_
        rw [h1]
        refine pr_iconst (1) 45 dX9_go_44 (by decide) rfl ?_
        refine pr_iadd 46 dX9_go_45 rfl ?_
        rw [nI_1]
        refine pr_putI 49 dX9_go_46 fX9_21 rfl ?_
        refine pr_goto 0 dX9_go_49 rfl ?_
        exact ih (p' + 1) _ (by omega) (by rw [← hk, sk_s (by omega) hb]) (hg.u (by decide)) pm_gIe
      by_cases b1 : B p' = 32
      · refine pr_aload_n 1 dX9_go_0 rfl rfl rfl ?_
        refine pr_getI 4 dX9_go_1 fX9_21 rfl ?_
        rw [h1]
        refine pr_aload_n 5 dX9_go_4 rfl rfl rfl ?_
        refine pr_getI 8 dX9_go_5 fX9_18 rfl ?_
        rw [hs1]
        refine pr_icmp_ge 52 11 dX9_go_8 rfl rfl (fun c_8 => absurd (c_8) (nI_ge (by omega) (by omega))) (fun c_8 => ?_)
        refine pr_aload_n 12 dX9_go_11 rfl rfl rfl ?_
        refine pr_getR0 15 dX9_go_12 fX9_7 rfl ?_
        refine pr_aload_n 16 dX9_go_15 rfl rfl rfl ?_
        refine pr_getI 19 dX9_go_16 fX9_21 rfl ?_
        rw [h1]
        refine pr_iaload p' 20 dX9_go_19 rfl rfl rfl (by omega) rfl ?_
        rw [ht1 p' (by omega)]
        refine pr_bipush (32) 22 dX9_go_20 (by decide) rfl ?_
        refine pr_icmp_eq 39 25 dX9_go_22 rfl rfl (fun c_22 => ?_) (fun c_22 => absurd (e32.mpr b1) (c_22))
        exact lp (by simp [isB, b1])
      · by_cases b2 : B p' = 10
        · refine pr_aload_n 1 dX9_go_0 rfl rfl rfl ?_
          refine pr_getI 4 dX9_go_1 fX9_21 rfl ?_
          rw [h1]
          refine pr_aload_n 5 dX9_go_4 rfl rfl rfl ?_
          refine pr_getI 8 dX9_go_5 fX9_18 rfl ?_
          rw [hs1]
          refine pr_icmp_ge 52 11 dX9_go_8 rfl rfl (fun c_8 => absurd (c_8) (nI_ge (by omega) (by omega))) (fun c_8 => ?_)
          refine pr_aload_n 12 dX9_go_11 rfl rfl rfl ?_
          refine pr_getR0 15 dX9_go_12 fX9_7 rfl ?_
          refine pr_aload_n 16 dX9_go_15 rfl rfl rfl ?_
          refine pr_getI 19 dX9_go_16 fX9_21 rfl ?_
          rw [h1]
          refine pr_iaload p' 20 dX9_go_19 rfl rfl rfl (by omega) rfl ?_
          rw [ht1 p' (by omega)]
          refine pr_bipush (32) 22 dX9_go_20 (by decide) rfl ?_
          refine pr_icmp_eq 39 25 dX9_go_22 rfl rfl (fun c_22 => absurd (c_22) (fun z => b1 (e32.mp z))) (fun c_22 => ?_)
          refine pr_aload_n 26 dX9_go_25 rfl rfl rfl ?_
          refine pr_getR0 29 dX9_go_26 fX9_7 rfl ?_
          refine pr_aload_n 30 dX9_go_29 rfl rfl rfl ?_
          refine pr_getI 33 dX9_go_30 fX9_21 rfl ?_
          rw [h1]
          refine pr_iaload p' 34 dX9_go_33 rfl rfl rfl (by omega) rfl ?_
          rw [ht1 p' (by omega)]
          refine pr_bipush (10) 36 dX9_go_34 (by decide) rfl ?_
          refine pr_icmp_ne 52 39 dX9_go_36 rfl rfl (fun c_36 => absurd (e10.mpr b2) (c_36)) (fun c_36 => ?_)
          exact lp (by simp [isB, b2])
        · have e : p' = Q := by rw [← hk, sk_e (by simp [isB, b1, b2])]
          refine pr_aload_n 1 dX9_go_0 rfl rfl rfl ?_
          refine pr_getI 4 dX9_go_1 fX9_21 rfl ?_
          rw [h1]
          refine pr_aload_n 5 dX9_go_4 rfl rfl rfl ?_
          refine pr_getI 8 dX9_go_5 fX9_18 rfl ?_
          rw [hs1]
          refine pr_icmp_ge 52 11 dX9_go_8 rfl rfl (fun c_8 => absurd (c_8) (nI_ge (by omega) (by omega))) (fun c_8 => ?_)
          refine pr_aload_n 12 dX9_go_11 rfl rfl rfl ?_
          refine pr_getR0 15 dX9_go_12 fX9_7 rfl ?_
          refine pr_aload_n 16 dX9_go_15 rfl rfl rfl ?_
          refine pr_getI 19 dX9_go_16 fX9_21 rfl ?_
          rw [h1]
          refine pr_iaload p' 20 dX9_go_19 rfl rfl rfl (by omega) rfl ?_
          rw [ht1 p' (by omega)]
          refine pr_bipush (32) 22 dX9_go_20 (by decide) rfl ?_
          refine pr_icmp_eq 39 25 dX9_go_22 rfl rfl (fun c_22 => absurd (c_22) (fun z => b1 (e32.mp z))) (fun c_22 => ?_)
          refine pr_aload_n 26 dX9_go_25 rfl rfl rfl ?_
          refine pr_getR0 29 dX9_go_26 fX9_7 rfl ?_
          refine pr_aload_n 30 dX9_go_29 rfl rfl rfl ?_
          refine pr_getI 33 dX9_go_30 fX9_21 rfl ?_
          rw [h1]
          refine pr_iaload p' 34 dX9_go_33 rfl rfl rfl (by omega) rfl ?_
          rw [ht1 p' (by omega)]
          refine pr_bipush (10) 36 dX9_go_34 (by decide) rfl ?_
          refine pr_icmp_ne 52 39 dX9_go_36 rfl rfl (fun c_36 => ?_) (fun c_36 => absurd (c_36) (fun z => b2 (e10.mp z)))
          exact st2 mem hg (by rw [← e]; exact h1)
  refine Cl.of (own := RX9) rfl rfl (Nat.le_of_ble_eq_true rfl) rfl ?_; show PR _ _ _ _ _ _ [some _, none, none, none, none] _ _ _
  exact st1 (T - p) p mem0 (by omega) hQ goF.rf hto
end MGO
