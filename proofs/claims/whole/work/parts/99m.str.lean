/-! the texts that the class compares with, and the library's own methods on them: made by wip/whole/gen99m.py -/
section PRT
variable {cc : ByteArray} {own : String} {nL fr lo pc : Nat} {ls : List (Option pm_v)} {st : List pm_v} {mem : pm_M} {X : Nat → List (Option pm_v) → List pm_v → pm_M → Prop}
theorem pm_SKs {S0 s : State} {ad : pm_A} (h : pm_SK S0 ad) (hD : pm_D S0 s) : vk_S 13 pm_len pm_byt (ad 99) (fun k => ad 99 (100 + k)) (fun q => S0.heap.size ≤ q) s s.heap :=
  vk_S.kept (vk_S.moved hD.1.alike h.1) (fun a ha _ => hD.2.2 a ha)
theorem pr_ldcS {idx : Nat} (k : Nat) (tx : String) (q : Nat) (hd : decode cc pc = .ok (.ldc idx, 2)) (hk : pm_str[k]? = some (own, idx)) (ht : pm_txt[k]? = some tx) (hq : pc + 2 = q) (kk : PR cc own nL fr lo q ls (pR 99 k :: st) mem X) : PR cc own nL fr lo pc ls st mem X := by
  subst hq
  refine PR.step1 (fun {p l e R s m args below meth c cells slots Q S0 a0 ad D cs} H locs la hC hl hs hH hS kk => ?_) kk
  obtain ⟨hx, hb, hml, hown, hG, hD, hfr, hlo, hcl, hsl⟩ := hC
  exact va_ldcS hx hb hown (vk_R.warm hD.1 (hG.2.2.2.2.2.2.2.1 k (own, idx) tx hk ht)) hd (kk la hl ⟨Or.inl rfl, hs⟩)
theorem pr_getVal {idx k : Nat} (q : Nat) (hd : decode cc pc = .ok (.getfield idx, 3)) (hw : Cond.fieldLink own idx "java/lang/String" "value" "[B" ∈ lw_tbl) (hk : k < 13) (hq : pc + 3 = q) (kk : PR cc own nL fr lo q ls (pR 99 (100 + k) :: st) mem X) : PR cc own nL fr lo pc ls (pR 99 k :: st) mem X := by
  subst hq
  refine PR.step1 (fun {p l e R s m args below meth c cells slots Q S0 a0 ad D cs} H locs la hC hl hs hH hS kk => ?_) kk
  obtain ⟨hx, hb, hml, hown, hG, hD, hfr, hlo, hcl, hsl⟩ := hC
  exact vk_getf hx hb ((pm_SKs hG.2.2.2.2.2.2 hD).1 k hk).2.2.1 hS hown (pm_word hG hD _ rfl hw) (fun _ h => h) hd (kk la hl ⟨Or.inl rfl, hs.2⟩)
theorem pr_getCod {idx k : Nat} (q : Nat) (hd : decode cc pc = .ok (.getfield idx, 3)) (hw : Cond.fieldLink own idx "java/lang/String" "coder" "B" ∈ lw_tbl) (hk : k < 13) (hq : pc + 3 = q) (kk : PR cc own nL fr lo q ls (pI 0 :: st) mem X) : PR cc own nL fr lo pc ls (pR 99 k :: st) mem X := by
  subst hq
  refine PR.step1 (fun {p l e R s m args below meth c cells slots Q S0 a0 ad D cs} H locs la hC hl hs hH hS kk => ?_) kk
  obtain ⟨hx, hb, hml, hown, hG, hD, hfr, hlo, hcl, hsl⟩ := hC
  exact vk_getf hx hb ((pm_SKs hG.2.2.2.2.2.2 hD).1 k hk).2.1 hS hown (pm_word hG hD _ rfl hw) (fun _ h => h) hd (kk la hl ⟨trivial, hs.2⟩)
theorem pr_alenS {k : Nat} (q : Nat) (hd : decode cc pc = .ok (.arraylength, 1)) (hk : k < 13) (hq : pc + 1 = q) (kk : PR cc own nL fr lo q ls (pI (nI (pm_len.getD k 0)) :: st) mem X) : PR cc own nL fr lo pc ls (pR 99 (100 + k) :: st) mem X := by
  subst hq
  refine PR.step1 (fun {p l e R s m args below meth c cells slots Q S0 a0 ad D cs} H locs la hC hl hs hH hS kk => ?_) kk
  obtain ⟨hx, hb, hml, hown, hG, hD, hfr, hlo, hcl, hsl⟩ := hC
  exact va_tlen hx hb ((pm_SKs hG.2.2.2.2.2.2 hD).1 k hk).2.2.2 hS rfl hd (kk la hl ⟨trivial, hs.2⟩)
def pm_ch (k j : Nat) : Int32 := (pm_byt.getD k []).getD j 0
theorem pm_len_s : ∀ k, k < 13 → pm_len.getD k 0 < 100 := by decide +kernel
theorem pr_baloadS {k : Nat} (j : Nat) (q : Nat) (hd : decode cc pc = .ok (.baload, 1)) (hk : k < 13) (hj : j < pm_len.getD k 0) (hq : pc + 1 = q) (kk : PR cc own nL fr lo q ls (pI (pm_ch k j) :: st) mem X) : PR cc own nL fr lo pc ls (pI (nI j) :: pR 99 (100 + k) :: st) mem X := by
  subst hq
  have hl100 := pm_len_s k hk
  refine PR.step1 (fun {p l e R s m args below meth c cells slots Q S0 a0 ad D cs} H locs la hC hl hs hH hS kk => ?_) kk
  obtain ⟨hx, hb, hml, hown, hG, hD, hfr, hlo, hcl, hsl⟩ := hC
  exact va_tb hx hb ((pm_SKs hG.2.2.2.2.2.2 hD).1 k hk).2.2.2 hS (vp_in_nI hj (by omega)) (v := .int (pm_ch k j)) (by rw [nI_clamp (by omega)]; rfl) hd (kk la hl ⟨trivial, hs.2.2⟩)
theorem pr_getsC {idx : Nat} (q : Nat) (hd : decode cc pc = .ok (.getstatic idx, 3)) (hw : Cond.fieldLink own idx "java/lang/String" "COMPACT_STRINGS" "Z" ∈ lw_tbl) (hq : pc + 3 = q) (kk : PR cc own nL fr lo q ls (pI 1 :: st) mem X) : PR cc own nL fr lo pc ls st mem X := by
  subst hq
  refine PR.step1 (fun {p l e R s m args below meth c cells slots Q S0 a0 ad D cs} H locs la hC hl hs hH hS kk => ?_) kk
  obtain ⟨hx, hb, hml, hown, hG, hD, hfr, hlo, hcl, hsl⟩ := hC
  exact va_gets hx hb (va_Z.kept (va_Z.moved hD.1.alike hG.2.2.2.2.2.2.2.2.1) (fun a ha _ => hD.2.2 a ha)) hS hown (pm_word hG hD _ rfl hw) (fun _ h => h) hd (kk la hl ⟨trivial, hs⟩)
theorem pr_getsF {idx : Nat} (q : Nat) (hd : decode cc pc = .ok (.getstatic idx, 3)) (hw : Cond.fieldLink own idx "jdk/internal/util/Preconditions" "SIOOBE_FORMATTER" "Ljava/util/function/BiFunction;" ∈ lw_tbl) (hq : pc + 3 = q) (k1 : PR cc own nL fr lo q ls (pN :: st) mem X) (k2 : PR cc own nL fr lo q ls (pR 99 200 :: st) mem X) : PR cc own nL fr lo pc ls st mem X := by
  subst hq
  intro p l e R s m args below meth c cells slots Q S0 a0 ad D cs hC hK H locs la hl hs hH hS
  obtain ⟨hx, hb, hml, hown, hG, hD, hfr, hlo, hcl, hsl⟩ := id hC
  rcases hG.2.2.2.2.2.2.2.2.2 with z | z
  · exact va_gets hx hb (va_Z.kept (va_Z.moved hD.1.alike z) (fun a ha _ => hD.2.2 a ha)) hS hown (pm_word hG hD _ rfl hw) (fun _ h => h) hd (k1 p l e R s m args below meth c cells slots Q S0 a0 ad D cs hC hK H locs la hl ⟨trivial, hs⟩ hH hS)
  · exact va_gets hx hb (va_Z.kept (va_Z.moved hD.1.alike z) (fun a ha _ => hD.2.2 a ha)) hS hown (pm_word hG hD _ rfl hw) (fun _ h => h) hd (k2 p l e R s m args below meth c cells slots Q S0 a0 ad D cs hC hK H locs la hl ⟨Or.inl rfl, hs⟩ hH hS)
def pm_CT (own : String) (idx : Nat) (y : MethodName) : Prop := y.cls = "java/lang/String" ∧ Cond.methodLink own idx y ∈ lw_tbl ∧ Cond.instanceMethod y ∈ lw_tbl ∧ Cond.selects y.cls y y ∈ lw_tbl
theorem pr_invT {idx k : Nat} {y : MethodName} {bc : ByteArray} {mL n fr' lo' : Nat} {ret : Option FieldType} {Qr : Option pm_v → pm_M → Prop} (as : List pm_v) (q : Nat) (hd : decode cc pc = .ok (.invokevirtual idx, 3)) (hw : pm_CT own idx y) (hk : k < 13) (hm : pm_MW y bc mL ret n) (hc : Cl y bc mL ret fr' lo' (pR 99 k :: as) mem Qr) (hR : fr' + 1 ≤ fr ∧ 8 + (mL + 11) + lo' ≤ lo) (hn : as.length = n) (hst : (st.map pm_cat).sum ≤ 8)
    (hq : pc + 3 = q) (kk : ∀ r mem', Qr r mem' → PR cc own nL fr lo q ls (r.toList ++ st) mem' X) : PR cc own nL fr lo pc ls (as.reverse ++ pR 99 k :: st) mem X := by
  subst hq
  intro p l e R s m args below meth c cells slots Q S0 a0 ad D cs hC hK H locs la hl hs hH hS
  have hrc := vk_recv (pm_SKs hC.2.2.2.2.1.2.2.2.2.2.2 hC.2.2.2.2.2.1) hk hS
  obtain ⟨cell, q1, q2, q3⟩ := hrc
  obtain ⟨hx, hb, hml, hown, hG, hD, hfr, hlo, hcl, hsl⟩ := id hC
  have hDU : ∀ U : State, U.heap = H → s.WarmedH U.vm → pm_D S0 U := fun U hU hW => hD.step hW (by rw [hU]; exact hS.1) (fun z hz => by rw [hU]; exact hS.2.1 z (Nat.lt_of_lt_of_le hz hD.2.1) (Nat.not_le.mpr hz))
  obtain ⟨hs1, hs2⟩ := pm_oks_app hs
  have has : pm_oks (pR 99 k :: as) := ⟨Or.inl rfl, by have := pm_oks_rev hs1; rwa [List.reverse_reverse] at this⟩
  have hcat : ((st.map (pm_mv ad)).map fun v => v.category).sum = (st.map pm_cat).sum := by
    rw [List.map_map]
    congr 1
    apply List.map_congr_left
    intro v _
    exact pm_mv_cat ad v
  have hrun : va_Run p l e R s m args below meth c H locs cells slots 0 0 (F0 m pc la ((as.reverse ++ pR 99 k :: st).map (pm_mv ad))) (st.map (pm_mv ad)) (pm_Qc S0 ad D cs Qr ((pR 99 k :: as).map (pm_mv ad)).toArray) (fun q => S0.heap.size ≤ q) := by
    refine va_runV (C := y.cls) (As := as.map (pm_mv ad)) (n := n) (b := ad 99 k) (Ts := []) ⟨hx, hb, hml, hown, fun _ h => by cases h⟩ (hc l S0 a0 ad D cs hG) ⟨pm_CB hG hD hm ⟨by omega, by omega⟩ hw.2.1, pm_word hG hD _ rfl hw.2.2.1, pm_word hG hD _ rfl hw.2.2.2⟩
      ⟨pm_blind, ⟨cell, q1, q2, by rw [hw.1]; exact q3⟩, fun U hU hW => ⟨rfl, has, hDU U hU hW, by rw [hU]; exact hH⟩⟩ rfl (by rw [List.length_map]; exact hn) hl.1 ?_ (lv_room (by rw [hcat]; exact hst)) hd ⟨by omega, by omega⟩
    rw [List.map_append, List.map_reverse]
    rfl
  intro T hT Xs
  obtain ⟨v, st₀, t, T', L, h0, X', hL, e1, e2, ⟨r, mem', hQ, hv, hok, hH', hz, hk'⟩, go⟩ := hrun T hT Xs
  rw [h0] at hz hk'
  have hvv : v = r.map (pm_mv ad) := by injection hv
  have hS' : va_S (fun q => S0.heap.size ≤ q) s.heap T'.heap (locs ++ L) := ⟨Nat.le_trans hS.1 (by rw [e1]; exact hz), fun z h1 h2 => by rw [e1, hk' z (Nat.lt_of_lt_of_le h1 hS.1) h2]; exact hS.2.1 z h1 h2, fun z hz => by
    rcases List.mem_append.mp hz with h | h
    · exact hS.2.2 z h
    · exact hL z h⟩
  have hoks : pm_oks (r.toList ++ st) := by
    cases r with
    | none => exact hs2.2
    | some v => exact ⟨hok v rfl, hs2.2⟩
  obtain ⟨t2, a1, b1⟩ := kk r mem' hQ p l e R s m args below meth c cells slots Q S0 a0 ad D cs hC hK T'.heap (locs ++ L) la hl hoks (by rw [e1]; exact hH') hS' T' rfl X'
  refine ⟨t2, go t2 ?_, b1⟩
  rw [hvv]
  cases r with
  | none => exact a1
  | some v => exact a1
theorem pr_invT0 {idx k : Nat} {y : MethodName} {bc : ByteArray} {mL fr' lo' : Nat} {ret : Option FieldType} {v : pm_v} {mem' : pm_M} (q : Nat) (hd : decode cc pc = .ok (.invokevirtual idx, 3)) (hw : pm_CT own idx y) (hk : k < 13) (hm : pm_MW y bc mL ret 0) (hc : Cd y bc mL ret fr' lo' [pR 99 k] mem (some v) mem') (hR : fr' + 1 ≤ fr ∧ 8 + (mL + 11) + lo' ≤ lo) (hst : (st.map pm_cat).sum ≤ 8) (hq : pc + 3 = q) (kk : PR cc own nL fr lo q ls (v :: st) mem' X) : PR cc own nL fr lo pc ls (pR 99 k :: st) mem X := pr_invT [] q hd hw hk hm hc hR rfl hst hq (fun r m' h => by obtain ⟨rfl, rfl⟩ := h; exact kk)
theorem pr_invT1 {idx k : Nat} {y : MethodName} {bc : ByteArray} {mL fr' lo' : Nat} {ret : Option FieldType} {v a0 : pm_v} {mem' : pm_M} (q : Nat) (hd : decode cc pc = .ok (.invokevirtual idx, 3)) (hw : pm_CT own idx y) (hk : k < 13) (hm : pm_MW y bc mL ret 1) (hc : Cd y bc mL ret fr' lo' [pR 99 k, a0] mem (some v) mem') (hR : fr' + 1 ≤ fr ∧ 8 + (mL + 11) + lo' ≤ lo) (hst : (st.map pm_cat).sum ≤ 8) (hq : pc + 3 = q) (kk : PR cc own nL fr lo q ls (v :: st) mem' X) : PR cc own nL fr lo pc ls (a0 :: pR 99 k :: st) mem X := pr_invT [a0] q hd hw hk hm hc hR rfl hst hq (fun r m' h => by obtain ⟨rfl, rfl⟩ := h; exact kk)
end PRT
theorem mJ0_length_8abf5 : pm_MW yJ0_length_8abf5 cJ0_length_8abf5 1 (some .int) 0 := ⟨pm_t3 23 rfl, pm_t1 12 rfl, ⟨by decide +kernel, by decide +kernel⟩, by decide +kernel⟩
theorem mJ0_charAt_5068e : pm_MW yJ0_charAt_5068e cJ0_charAt_5068e 2 (some .char) 1 := ⟨pm_t3 33 rfl, pm_t1 12 rfl, ⟨by decide +kernel, by decide +kernel⟩, by decide +kernel⟩
theorem mJ0_coder_7d493 : pm_MW yJ0_coder_7d493 cJ0_coder_7d493 1 (some .byte) 0 := ⟨pm_t3 27 rfl, pm_t1 12 rfl, ⟨by decide +kernel, by decide +kernel⟩, by decide +kernel⟩
theorem mJ0_isLatin1_aae02 : pm_MW yJ0_isLatin1_aae02 cJ0_isLatin1_aae02 1 (some .boolean) 0 := ⟨pm_t3 37 rfl, pm_t1 12 rfl, ⟨by decide +kernel, by decide +kernel⟩, by decide +kernel⟩
theorem mJ0_checkIndex_df160 : pm_MW yJ0_checkIndex_df160 cJ0_checkIndex_df160 2 none 2 := ⟨pm_t3 43 rfl, pm_t1 12 rfl, ⟨by decide +kernel, by decide +kernel⟩, by decide +kernel⟩
theorem mJ1_charAt_3b067 : pm_MW yJ1_charAt_3b067 cJ1_charAt_3b067 2 (some .char) 2 := ⟨pm_t3 40 rfl, pm_t1 13 rfl, ⟨by decide +kernel, by decide +kernel⟩, by decide +kernel⟩
theorem mJ3_checkIndex_8e157 : pm_MW yJ3_checkIndex_8e157 cJ3_checkIndex_8e157 3 (some .int) 3 := ⟨pm_t3 48 rfl, pm_t1 14 rfl, ⟨by decide +kernel, by decide +kernel⟩, by decide +kernel⟩
theorem tX6_len : pm_CT RX6 85 yJ0_length_8abf5 := ⟨rfl, pm_t3 20 rfl, pm_t3 21 rfl, pm_t3 22 rfl⟩
theorem tX6_chr : pm_CT RX6 90 yJ0_charAt_5068e := ⟨rfl, pm_t3 30 rfl, pm_t3 31 rfl, pm_t3 32 rfl⟩
theorem tJ0_cod : pm_CT RJ0 335 yJ0_coder_7d493 := ⟨rfl, pm_t3 24 rfl, pm_t3 25 rfl, pm_t3 26 rfl⟩
theorem tJ0_lat : pm_CT RJ0 492 yJ0_isLatin1_aae02 := ⟨rfl, pm_t3 34 rfl, pm_t3 35 rfl, pm_t3 36 rfl⟩
theorem uJ0_chr : pm_CS RJ0 495 yJ1_charAt_3b067 := ⟨pm_t3 38 rfl, pm_t3 39 rfl⟩
theorem uJ1_chk : pm_CS RJ1 9 yJ0_checkIndex_df160 := ⟨pm_t3 41 rfl, pm_t3 42 rfl⟩
theorem uJ0_chk : pm_CS RJ0 1059 yJ3_checkIndex_8e157 := ⟨pm_t3 46 rfl, pm_t3 47 rfl⟩
theorem fJ0_val : Cond.fieldLink "java/lang/String" 9 "java/lang/String" "value" "[B" ∈ lw_tbl := pm_t6 157 rfl
theorem fJ0_cod : Cond.fieldLink "java/lang/String" 15 "java/lang/String" "coder" "B" ∈ lw_tbl := pm_t6 158 rfl
theorem fJ0_cmp : Cond.fieldLink "java/lang/String" 38 "java/lang/String" "COMPACT_STRINGS" "Z" ∈ lw_tbl := pm_t3 28 rfl
theorem fJ0_fmt : Cond.fieldLink "java/lang/String" 1053 "jdk/internal/util/Preconditions" "SIOOBE_FORMATTER" "Ljava/util/function/BiFunction;" ∈ lw_tbl := pm_t3 44 rfl
theorem pm_shr0 : ∀ k, k < 13 → nI (pm_len.getD k 0) >>> ((0 : Int32) &&& 31) = nI (pm_len.getD k 0) := by decide +kernel
theorem pm_chc : ∀ k, k < 13 → ∀ j, j < pm_len.getD k 0 → ((pm_ch k j &&& 255).toUInt32 % 65536).toInt32 = pm_ch k j ∧ 0 ≤ pm_ch k j ∧ pm_ch k j < 128 := by decide +kernel
theorem pm_narc {x : Int32} (h0 : 0 ≤ x) (h1 : x < 128) : narrow .char (.int x) = .int x := by
  obtain ⟨n, hn, rfl⟩ := nI_of (Int32.not_lt.mpr h0)
  have h2 : n < 128 := by
    rcases Nat.lt_or_ge n 128 with z | z
    · exact z
    · exact absurd h1 (nI_nlt (a := n) (b := 128) z hn)
  have : ∀ n, n < 128 → narrow .char (.int (nI n)) = .int (nI n) := by decide +kernel
  exact this n h2
section STR
variable {mem : pm_M} {k j : Nat}
theorem sp_coder (hk : k < 13) : Cd yJ0_coder_7d493 cJ0_coder_7d493 1 (some .byte) 0 0 [pR 99 k] mem (some (pI 0)) mem := by
  refine Cl.of (own := RJ0) rfl rfl (Nat.le_of_ble_eq_true rfl) rfl ?_; show PR _ _ _ _ _ _ [some _] _ _ _
  refine pr_getsC 3 dJ0_coder_7d493_0 fJ0_cmp rfl ?_
  refine pr_if_eq 13 6 dJ0_coder_7d493_3 rfl rfl (fun c => absurd c (by decide)) (fun c => ?_)
  refine pr_aload_n 7 dJ0_coder_7d493_6 rfl rfl rfl ?_
  refine pr_getCod 10 dJ0_coder_7d493_7 fJ0_cod hk rfl ?_
  refine pr_goto 14 dJ0_coder_7d493_10 rfl ?_
  exact pr_breturn dJ0_coder_7d493_14 rfl rfl ⟨rfl, rfl⟩
theorem sp_isLatin1 (hk : k < 13) : Cd yJ0_isLatin1_aae02 cJ0_isLatin1_aae02 1 (some .boolean) 0 0 [pR 99 k] mem (some (pI 1)) mem := by
  refine Cl.of (own := RJ0) rfl rfl (Nat.le_of_ble_eq_true rfl) rfl ?_; show PR _ _ _ _ _ _ [some _] _ _ _
  refine pr_getsC 3 dJ0_isLatin1_aae02_0 fJ0_cmp rfl ?_
  refine pr_if_eq 17 6 dJ0_isLatin1_aae02_3 rfl rfl (fun c => absurd c (by decide)) (fun c => ?_)
  refine pr_aload_n 7 dJ0_isLatin1_aae02_6 rfl rfl rfl ?_
  refine pr_getCod 10 dJ0_isLatin1_aae02_7 fJ0_cod hk rfl ?_
  refine pr_if_ne 17 13 dJ0_isLatin1_aae02_10 rfl rfl (fun c => absurd rfl c) (fun c => ?_)
  refine pr_iconst (1) 14 dJ0_isLatin1_aae02_13 (by decide) rfl ?_
  refine pr_goto 18 dJ0_isLatin1_aae02_14 rfl ?_
  exact pr_zreturn dJ0_isLatin1_aae02_18 rfl (Or.inr rfl) ⟨rfl, rfl⟩
theorem sp_length (hk : k < 13) : Cd yJ0_length_8abf5 cJ0_length_8abf5 1 (some .int) 1 20 [pR 99 k] mem (some (pI (nI (pm_len.getD k 0)))) mem := by
  refine Cl.of (own := RJ0) rfl rfl (Nat.le_of_ble_eq_true rfl) rfl ?_; show PR _ _ _ _ _ _ [some _] _ _ _
  refine pr_aload_n 1 dJ0_length_8abf5_0 rfl rfl rfl ?_
  refine pr_getVal 4 dJ0_length_8abf5_1 fJ0_val hk rfl ?_
  refine pr_alenS 5 dJ0_length_8abf5_4 hk rfl ?_
  refine pr_aload_n 6 dJ0_length_8abf5_5 rfl rfl rfl ?_
  refine pr_invT0 9 dJ0_length_8abf5_6 tJ0_cod hk mJ0_coder_7d493 (sp_coder hk) ⟨Nat.le_of_ble_eq_true rfl, Nat.le_of_ble_eq_true rfl⟩ (Nat.le_of_ble_eq_true rfl) rfl ?_
  refine pr_ishr 10 dJ0_length_8abf5_9 rfl ?_
  rw [pm_shr0 k hk]
  exact pr_ireturn dJ0_length_8abf5_10 rfl ⟨rfl, rfl⟩
theorem sp_precheck {n : Nat} (hj : j < n) (hn : n < 2 ^ 31) {v : pm_v} (hv : v = pN ∨ v = pR 99 200) : Cd yJ3_checkIndex_8e157 cJ3_checkIndex_8e157 3 (some .int) 0 0 [pI (nI j), pI (nI n), v] mem (some (pI (nI j))) mem := by
  refine Cl.of (own := RJ3) rfl (by rcases hv with rfl | rfl <;> rfl) (Nat.le_of_ble_eq_true rfl) rfl ?_; show PR _ _ _ _ _ _ [some _, some _, some _] _ _ _
  refine pr_iload_n 1 dJ3_checkIndex_8e157_0 rfl rfl rfl ?_
  refine pr_if_lt 9 4 dJ3_checkIndex_8e157_1 rfl rfl (fun c => absurd c (nI_pos (by omega))) (fun c => ?_)
  refine pr_iload_n 5 dJ3_checkIndex_8e157_4 rfl rfl rfl ?_
  refine pr_iload_n 6 dJ3_checkIndex_8e157_5 rfl rfl rfl ?_
  refine pr_icmp_lt 16 9 dJ3_checkIndex_8e157_6 rfl rfl (fun c => ?_) (fun c => absurd (nI_lt hj hn) c)
  refine pr_iload_n 17 dJ3_checkIndex_8e157_16 rfl rfl rfl ?_
  exact pr_ireturn dJ3_checkIndex_8e157_17 rfl ⟨rfl, rfl⟩
theorem sp_checkIndex {n : Nat} (hj : j < n) (hn : n < 2 ^ 31) : Cd yJ0_checkIndex_df160 cJ0_checkIndex_df160 2 none 1 22 [pI (nI j), pI (nI n)] mem none mem := by
  refine Cl.of (own := RJ0) rfl rfl (Nat.le_of_ble_eq_true rfl) rfl ?_; show PR _ _ _ _ _ _ [some _, some _] _ _ _
  refine pr_iload_n 1 dJ0_checkIndex_df160_0 rfl rfl rfl ?_
  refine pr_iload_n 2 dJ0_checkIndex_df160_1 rfl rfl rfl ?_
  refine pr_getsF 5 dJ0_checkIndex_df160_2 fJ0_fmt rfl ?_ ?_
  · refine pr_ivsD3 8 dJ0_checkIndex_df160_5 uJ0_chk mJ3_checkIndex_8e157 (sp_precheck hj hn (Or.inl rfl)) ⟨Nat.le_of_ble_eq_true rfl, Nat.le_of_ble_eq_true rfl⟩ (Nat.le_of_ble_eq_true rfl) rfl ?_
    refine pr_pop rfl 9 dJ0_checkIndex_df160_8 rfl ?_
    exact pr_return dJ0_checkIndex_df160_9 rfl ⟨rfl, rfl⟩
  · refine pr_ivsD3 8 dJ0_checkIndex_df160_5 uJ0_chk mJ3_checkIndex_8e157 (sp_precheck hj hn (Or.inr rfl)) ⟨Nat.le_of_ble_eq_true rfl, Nat.le_of_ble_eq_true rfl⟩ (Nat.le_of_ble_eq_true rfl) rfl ?_
    refine pr_pop rfl 9 dJ0_checkIndex_df160_8 rfl ?_
    exact pr_return dJ0_checkIndex_df160_9 rfl ⟨rfl, rfl⟩
theorem sp_charAt1 (hk : k < 13) (hj : j < pm_len.getD k 0) : Cd yJ1_charAt_3b067 cJ1_charAt_3b067 2 (some .char) 2 43 [pR 99 (100 + k), pI (nI j)] mem (some (pI (pm_ch k j))) mem := by
  have hl := pm_len_s k hk
  obtain ⟨c1, c2, c3⟩ := pm_chc k hk j hj
  refine Cl.of (own := RJ1) rfl rfl (Nat.le_of_ble_eq_true rfl) rfl ?_; show PR _ _ _ _ _ _ [some _, some _] _ _ _
  refine pr_iload_n 1 dJ1_charAt_3b067_0 rfl rfl rfl ?_
  refine pr_aload_n 2 dJ1_charAt_3b067_1 rfl rfl rfl ?_
  refine pr_alenS 3 dJ1_charAt_3b067_2 hk rfl ?_
  refine pr_ivs [pI (nI j), pI (nI (pm_len.getD k 0))] 6 dJ1_charAt_3b067_3 uJ1_chk mJ0_checkIndex_df160 (sp_checkIndex hj (by omega)) ⟨Nat.le_of_ble_eq_true rfl, Nat.le_of_ble_eq_true rfl⟩ rfl (Nat.le_of_ble_eq_true rfl) rfl (fun r m' h => ?_)
  obtain ⟨rfl, rfl⟩ := h
  refine pr_aload_n 7 dJ1_charAt_3b067_6 rfl rfl rfl ?_
  refine pr_iload_n 8 dJ1_charAt_3b067_7 rfl rfl rfl ?_
  refine pr_baloadS j 9 dJ1_charAt_3b067_8 hk hj rfl ?_
  refine pr_sipush (255) 12 dJ1_charAt_3b067_9 (by decide) rfl ?_
  refine pr_iand 13 dJ1_charAt_3b067_12 rfl ?_
  refine pr_i2c 14 dJ1_charAt_3b067_13 rfl ?_
  rw [c1]
  exact pr_creturn dJ1_charAt_3b067_14 rfl (pm_narc c2 c3) ⟨rfl, rfl⟩
theorem sp_charAt (hk : k < 13) (hj : j < pm_len.getD k 0) : Cd yJ0_charAt_5068e cJ0_charAt_5068e 2 (some .char) 3 64 [pR 99 k, pI (nI j)] mem (some (pI (pm_ch k j))) mem := by
  obtain ⟨c1, c2, c3⟩ := pm_chc k hk j hj
  refine Cl.of (own := RJ0) rfl rfl (Nat.le_of_ble_eq_true rfl) rfl ?_; show PR _ _ _ _ _ _ [some _, some _] _ _ _
  refine pr_aload_n 1 dJ0_charAt_5068e_0 rfl rfl rfl ?_
  refine pr_invT0 4 dJ0_charAt_5068e_1 tJ0_lat hk mJ0_isLatin1_aae02 (sp_isLatin1 hk) ⟨Nat.le_of_ble_eq_true rfl, Nat.le_of_ble_eq_true rfl⟩ (Nat.le_of_ble_eq_true rfl) rfl ?_
  refine pr_if_eq 16 7 dJ0_charAt_5068e_4 rfl rfl (fun c => absurd c (by decide)) (fun c => ?_)
  refine pr_aload_n 8 dJ0_charAt_5068e_7 rfl rfl rfl ?_
  refine pr_getVal 11 dJ0_charAt_5068e_8 fJ0_val hk rfl ?_
  refine pr_iload_n 12 dJ0_charAt_5068e_11 rfl rfl rfl ?_
  refine pr_ivsD2 15 dJ0_charAt_5068e_12 uJ0_chr mJ1_charAt_3b067 (sp_charAt1 hk hj) ⟨Nat.le_of_ble_eq_true rfl, Nat.le_of_ble_eq_true rfl⟩ (Nat.le_of_ble_eq_true rfl) rfl ?_
  exact pr_creturn dJ0_charAt_5068e_15 rfl (pm_narc c2 c3) ⟨rfl, rfl⟩
end STR
