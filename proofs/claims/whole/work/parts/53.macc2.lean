/-! the reference: laysAccount, account -/
section MLA
variable {mem0 : pm_M} {K w lk : Nat → Nat} {M : Nat} {o : Option Nat}
def sMA : Nat → Nat → Prop := fun t i => t ∈ [10009909, 20016377, 20016378, 20016379, 20289381, 20017380, 40017384, 20017383, 20017382, 40017385] ∧ i = 0
/-- all that an account says -/
def acM (mem : pm_M) (K w lk : Nat → Nat) (M : Nat) : Prop :=
  (∀ t, t < K 40 → mem.1 20016377 0 t = nI (cld K t) ∧ mem.1 20016379 0 t = onI (if idl K w lk M t = true then hr K w lk M t else none) ∧ mem.1 20016378 0 t = nI (gvn K w lk M t) ∧ ∀ l, l < M → mem.1 20289381 0 (17 * t + l) = nI (oft K w lk M t l)) ∧
  mem.1 10009909 0 28 = nI (opn K w lk M) ∧ ∀ l, l < M → mem.1 20289381 0 (17 * 16 + l) = nI (ofo K w lk M l) ∧ mem.1 20017380 0 l = nI (shr K w lk M l)
def maPost (mem0 : pm_M) (K w lk : Nat → Nat) (M : Nat) : Option pm_v → pm_M → Prop := fun r mem => r = none ∧ pm_fr sMA mem0 mem ∧ mdO mem0 mem ∧ acM mem K w lk M
set_option maxRecDepth 100000 in
theorem lp_X9_laF (h : rowR 20869371 mem0 K) (hW : WF K) (hw : WL K w lk M) (hm : mwR mem0 w lk M o) {a2 : Option pm_v} :
    ∀ j n mem, n + j = M → pm_fr sMA mem0 mem → mdO mem0 mem → mem.1 10009909 0 28 = nI (opn K w lk M) → (∀ l, l < M → mem.1 20017382 0 l = nI (ofo K w lk M l)) → (∀ t, t < K 40 → mem.1 20016377 0 t = nI (cld K t) ∧ mem.1 20016379 0 t = onI (if idl K w lk M t = true then hr K w lk M t else none) ∧ mem.1 20016378 0 t = nI (gvn K w lk M t) ∧ ∀ l, l < M → mem.1 20289381 0 (17 * t + l) = nI (oft K w lk M t l)) → (∀ l, l < M → (l < n → mem.1 20289381 0 (17 * 16 + l) = nI (ofo K w lk M l)) ∧ mem.1 20017380 0 l = nI (sm (fun t => oft K w lk M t l) (K 40) + if l < n then ofo K w lk M l else 0)) → PR cX9_laysAccount RX9 3 5 114 308 [some (pR 10009909 0), some (pI (nI n)), a2] [] mem (pm_RX cX9_laysAccount none (maPost mem0 K w lk M)) := by
  have hM := hw.1
  have h16 := hW.2.2.2.2.1
  intro j
  induction j with
  | zero =>
    intro n mem hj i1 i2 i3 i4 i5 i6
    have e : M = n := by omega
    subst e
    obtain ⟨m1, m2, m3⟩ := hm.fr i1 i2 (by simp [sMA]) (by simp [sMA])
    refine pr_iload_n 309 dX9_laysAccount_308 rfl rfl rfl ?_
    refine pr_aload_n 310 dX9_laysAccount_309 rfl rfl rfl ?_
    refine pr_getI 313 dX9_laysAccount_310 fX9_176 rfl ?_
    rw [m1]
    refine pr_icmp_ge 335 316 dX9_laysAccount_313 rfl rfl (fun c_313 => ?_) (fun c_313 => absurd (Int32.le_refl _) (c_313))
    refine pr_return dX9_laysAccount_335 rfl ?_
    refine ⟨rfl, i1, i2, i5, i3, fun l hl => ⟨(i6 l hl).1 hl, ?_⟩⟩
    rw [(i6 l hl).2, if_pos hl]
    rfl
  | succ j ih =>
    intro n mem hj i1 i2 i3 i4 i5 i6
    obtain ⟨m1, m2, m3⟩ := hm.fr i1 i2 (by simp [sMA]) (by simp [sMA])
    have hsh := (i6 n (by omega)).2
    rw [if_neg (by omega), Nat.add_zero] at hsh
    refine pr_iload_n 309 dX9_laysAccount_308 rfl rfl rfl ?_
    refine pr_aload_n 310 dX9_laysAccount_309 rfl rfl rfl ?_
    refine pr_getI 313 dX9_laysAccount_310 fX9_176 rfl ?_
    rw [m1]
    refine pr_icmp_ge 335 316 dX9_laysAccount_313 rfl rfl (fun c_313 => absurd (c_313) (nI_ge (by omega) (by omega))) (fun c_313 => ?_)
    refine pr_aload_n 317 dX9_laysAccount_316 rfl rfl rfl ?_
    refine pr_bipush (16) 319 dX9_laysAccount_317 (by decide) rfl ?_
    refine pr_iload_n 320 dX9_laysAccount_319 rfl rfl rfl ?_
    refine pr_aload_n 321 dX9_laysAccount_320 rfl rfl rfl ?_
    refine pr_getR0 324 dX9_laysAccount_321 fX9_94 rfl ?_
    refine pr_iload_n 325 dX9_laysAccount_324 rfl rfl rfl ?_
    refine pr_iaload n 326 dX9_laysAccount_325 rfl rfl rfl (by omega) rfl ?_
    rw [i4 n (by omega)]
    refine pr_inv03 329 dX9_laysAccount_326 vX9_218 mX9_gives (sp_X9_gives 16 n _ (by omega) (by omega) hsh) ⟨Nat.le_of_ble_eq_true rfl, Nat.le_of_ble_eq_true rfl⟩ (Nat.le_of_ble_eq_true rfl) rfl ?_
    refine pr_iinc 332 dX9_laysAccount_329 rfl (by first | exact pm_inc _ | rfl) (pm_st_1 rfl rfl) rfl ?_
    refine pr_goto 308 dX9_laysAccount_332 rfl ?_
    refine ih (n + 1) _ (by omega) ((i1.uI (t := 20289381) (i := 0) ⟨by simp, rfl⟩).uI ⟨by simp, rfl⟩) ((i2.uI (by decide)).uI (by decide)) (by rw [pm_gIn (by simp), pm_gIn (by simp)]; exact i3) (fun l hl => by rw [pm_gIn (by simp), pm_gIn (by simp)]; exact i4 l hl) (fun t ht => ?_) (fun l hl => ?_)
    · obtain ⟨q1, q2, q3, q4⟩ := i5 t ht
      refine ⟨by rw [pm_gIn (by simp), pm_gIn (by simp)]; exact q1, by rw [pm_gIn (by simp), pm_gIn (by simp)]; exact q2, by rw [pm_gIn (by simp), pm_gIn (by simp)]; exact q3, fun l hl => ?_⟩
      rw [pm_gIn (by simp), pm_gIn (fun z => by have := z.2.2; omega)]
      exact q4 l hl
    · by_cases z : l = n
      · subst z
        rw [pm_gIn (by simp), pm_gIe, pm_gIe, if_pos (by omega)]
        exact ⟨fun _ => rfl, rfl⟩
      · rw [pm_gIn (by simp), pm_gIn (fun y => z (by have := y.2.2; omega)), pm_gIn (fun y => z y.2.2), pm_gIn (by simp)]
        refine ⟨fun hn => (i6 l hl).1 (by omega), ?_⟩
        rw [(i6 l hl).2]
        by_cases y : l < n
        · rw [if_pos y, if_pos (by omega)]
        · rw [if_neg y, if_neg (by omega)]
/-- E: the open part measured; D: trips up to t laid -/
def laD (mem0 mem : pm_M) (K w lk : Nat → Nat) (M t : Nat) : Prop :=
  pm_fr sMA mem0 mem ∧ mdO mem0 mem ∧ mem.1 10009909 0 28 = nI (opn K w lk M) ∧ (∀ t, t < K 40 → mem.1 20016377 0 t = nI (cld K t) ∧ mem.1 20016379 0 t = onI (if idl K w lk M t = true then hr K w lk M t else none) ∧ mem.1 20016378 0 t = nI (gvn K w lk M t)) ∧ (∀ u, u < K 40 → ∀ l, l < M → mem.1 20289381 0 (17 * u + l) = nI (if u < t then oft K w lk M u l else 0)) ∧ ∀ l, l < M → mem.1 20017380 0 l = nI (sm (fun u => oft K w lk M u l) t)
set_option maxRecDepth 100000 in
theorem lp_X9_laE (h : rowR 20869371 mem0 K) (hW : WF K) (hw : WL K w lk M) (hm : mwR mem0 w lk M o) {a2 : Option pm_v} :
    ∀ j n mem, n + j = M → laD mem0 mem K w lk M (K 40) → (∀ l, l < n → mem.2.1 40017384 0 l = lN (omz K w lk l)) → PR cX9_laysAccount RX9 3 5 114 230 [some (pR 10009909 0), some (pI (nI n)), a2] [] mem (pm_RX cX9_laysAccount none (maPost mem0 K w lk M)) := by
  have hM := hw.1
  have h16 := hW.2.2.2.2.1
  have hn16 := hW.2.2.2.1
  have hgb := opn_le (w := w) (lk := lk) hW M
  intro j
  induction j with
  | zero =>
    intro n mem hj hi hme
    have e : M = n := by omega
    subst e
    obtain ⟨i1, i2, i3, i4, i5, i6⟩ := hi
    obtain ⟨m1, m2, m3⟩ := hm.fr i1 i2 (by simp [sMA]) (by simp [sMA])
    refine pr_iload_n 231 dX9_laysAccount_230 rfl rfl rfl ?_
    refine pr_aload_n 232 dX9_laysAccount_231 rfl rfl rfl ?_
    refine pr_getI 235 dX9_laysAccount_232 fX9_176 rfl ?_
    rw [m1]
    refine pr_icmp_ge 294 238 dX9_laysAccount_235 rfl rfl (fun c_235 => ?_) (fun c_235 => absurd (Int32.le_refl _) (c_235))
    refine pr_aload_n 295 dX9_laysAccount_294 rfl rfl rfl ?_
    refine pr_aload_n 296 dX9_laysAccount_295 rfl rfl rfl ?_
    refine pr_getI 299 dX9_laysAccount_296 fX9_195 rfl ?_
    rw [i3]
    refine pr_aload_n 300 dX9_laysAccount_299 rfl rfl rfl ?_
    refine pr_getI 303 dX9_laysAccount_300 fX9_176 rfl ?_
    rw [m1]
    refine pr_inv0R2 306 dX9_laysAccount_303 vX9_198 mX9_parts (sp_X9_parts (m := omz K w lk) (by omega) hme (fun l hl => by have := omz_le hW hw hl; omega) (by omega)) ⟨Nat.le_of_ble_eq_true rfl, Nat.le_of_ble_eq_true rfl⟩ (Nat.le_of_ble_eq_true rfl) rfl (fun mem1 g1 => ?_)
    refine pr_iconst (0) 307 dX9_laysAccount_306 (by decide) rfl ?_
    refine pr_istore_n 308 dX9_laysAccount_307 rfl (pm_st_1 rfl rfl) rfl ?_
    obtain ⟨j1, j2⟩ := g1
    have jf : pm_fr sMA mem mem1 := j1.mono (fun t i h => ⟨by rcases h.1 with z | z <;> simp [z], h.2⟩)
    have hof := (j1 20289381 0 (by simp [sMP])).1
    refine lp_X9_laF h hW hw hm M 0 mem1 (by omega) (i1.tr jf) (i2.tr (mdO.fr j1 (by simp [sMP]))) (by rw [(j1 10009909 0 (by simp [sMP])).1]; exact i3) j2 (fun t ht => ?_) (fun l hl => ⟨fun z => absurd z (Nat.not_lt_zero _), ?_⟩)
    · obtain ⟨q1, q2, q3⟩ := i4 t ht
      rw [(j1 20016377 0 (by simp [sMP])).1, (j1 20016379 0 (by simp [sMP])).1, (j1 20016378 0 (by simp [sMP])).1, hof]
      refine ⟨q1, q2, q3, fun l hl => ?_⟩
      rw [i5 t ht l hl, if_pos ht]
    · rw [(j1 20017380 0 (by simp [sMP])).1, i6 l hl]
      rfl
  | succ j ih =>
    intro n mem hj hi hme
    obtain ⟨i1, i2, i3, i4, i5, i6⟩ := hi
    have h1 := h.fr i1 (by simp [sMA])
    obtain ⟨m1, m2, m3⟩ := hm.fr i1 i2 (by simp [sMA]) (by simp [sMA])
    obtain ⟨w1, w2⟩ := hw.2 n (by omega)
    obtain ⟨-, a2', a3'⟩ := hW.2.2.2.2.2.2.2.1 (lk n) w2
    have hp := hW.2.1
    have hd := dd_le hW (p := K (69 + lk n)) (q := K (85 + lk n)) (by omega) (by omega)
    refine pr_iload_n 231 dX9_laysAccount_230 rfl rfl rfl ?_
    refine pr_aload_n 232 dX9_laysAccount_231 rfl rfl rfl ?_
    refine pr_getI 235 dX9_laysAccount_232 fX9_176 rfl ?_
    rw [m1]
    refine pr_icmp_ge 294 238 dX9_laysAccount_235 rfl rfl (fun c_235 => absurd (c_235) (nI_ge (by omega) (by omega))) (fun c_235 => ?_)
    refine pr_aload_n 239 dX9_laysAccount_238 rfl rfl rfl ?_
    refine pr_getR0 242 dX9_laysAccount_239 fX9_100 rfl ?_
    refine pr_iload_n 243 dX9_laysAccount_242 rfl rfl rfl ?_
    refine pr_aload_n 244 dX9_laysAccount_243 rfl rfl rfl ?_
    refine pr_getR0 247 dX9_laysAccount_244 fX9_73 rfl ?_
    refine pr_iload_n 248 dX9_laysAccount_247 rfl rfl rfl ?_
    refine pr_iaload n 249 dX9_laysAccount_248 rfl rfl rfl (by omega) rfl ?_
    rw [(m3 n (by omega)).1]
    refine pr_i2l 250 dX9_laysAccount_249 rfl ?_
    rw [nI_l (by omega)]
    refine pr_aload_n 251 dX9_laysAccount_250 rfl rfl rfl ?_
    refine pr_getR0 254 dX9_laysAccount_251 fX9_64 rfl ?_
    refine pr_aload_n 255 dX9_laysAccount_254 rfl rfl rfl ?_
    refine pr_getR0 258 dX9_laysAccount_255 fX9_64 rfl ?_
    refine pr_bipush (69) 260 dX9_laysAccount_258 (by decide) rfl ?_
    refine pr_aload_n 261 dX9_laysAccount_260 rfl rfl rfl ?_
    refine pr_getR0 264 dX9_laysAccount_261 fX9_76 rfl ?_
    refine pr_iload_n 265 dX9_laysAccount_264 rfl rfl rfl ?_
    refine pr_iaload n 266 dX9_laysAccount_265 rfl rfl rfl (by omega) rfl ?_
    rw [(m3 n (by omega)).2]
    refine pr_iadd 267 dX9_laysAccount_266 rfl ?_
    refine pr_iaload (69 + lk n) 268 dX9_laysAccount_267 rfl rfl (nI_add 69 _) (by omega) rfl ?_
    rw [h1.1 _ (by omega) (by omega)]
    refine pr_aload_n 269 dX9_laysAccount_268 rfl rfl rfl ?_
    refine pr_getR0 272 dX9_laysAccount_269 fX9_64 rfl ?_
    refine pr_bipush (85) 274 dX9_laysAccount_272 (by decide) rfl ?_
    refine pr_aload_n 275 dX9_laysAccount_274 rfl rfl rfl ?_
    refine pr_getR0 278 dX9_laysAccount_275 fX9_76 rfl ?_
    refine pr_iload_n 279 dX9_laysAccount_278 rfl rfl rfl ?_
    refine pr_iaload n 280 dX9_laysAccount_279 rfl rfl rfl (by omega) rfl ?_
    rw [(m3 n (by omega)).2]
    refine pr_iadd 281 dX9_laysAccount_280 rfl ?_
    refine pr_iaload (85 + lk n) 282 dX9_laysAccount_281 rfl rfl (nI_add 85 _) (by omega) rfl ?_
    rw [h1.1 _ (by omega) (by omega)]
    refine pr_ivsD3 285 dX9_laysAccount_282 sX9_128 mX9_directOf (sp_direct_now h1 _ _ (by omega) (by omega) (hW.2.2.2.2.2.2.1 _ (by omega)) (hW.2.2.2.2.2.2.1 _ (by omega))) ⟨Nat.le_of_ble_eq_true rfl, Nat.le_of_ble_eq_true rfl⟩ (Nat.le_of_ble_eq_true rfl) rfl ?_
    refine pr_i2l 286 dX9_laysAccount_285 rfl ?_
    rw [nI_l (by omega)]
    refine pr_lmul 287 dX9_laysAccount_286 rfl ?_
    rw [lN_mul]
    refine pr_lastore n 288 dX9_laysAccount_287 rfl rfl rfl (by omega) rfl ?_
    refine pr_iinc 291 dX9_laysAccount_288 rfl (by first | exact pm_inc _ | rfl) (pm_st_1 rfl rfl) rfl ?_
    refine pr_goto 230 dX9_laysAccount_291 rfl ?_
    refine ih (n + 1) _ (by omega) ⟨i1.uJ ⟨by simp, rfl⟩, i2.uJ (by decide), i3, i4, i5, i6⟩ (fun l hl => ?_)
    by_cases z : l = n
    · subst z; rw [pm_gJe]; rfl
    · rw [pm_gJn (fun y => z y.2.2)]; exact hme l (by omega)
set_option maxRecDepth 100000 in
theorem lp_X9_laD (h : rowR 20869371 mem0 K) (hW : WF K) (hw : WL K w lk M) (hm : mwR mem0 w lk M o) (hz : outZ w M o) {a2 : Option pm_v} :
    ∀ j t mem, t + j = K 40 → laD mem0 mem K w lk M t → PR cX9_laysAccount RX9 3 5 114 193 [some (pR 10009909 0), some (pI (nI t)), a2] [] mem (pm_RX cX9_laysAccount none (maPost mem0 K w lk M)) := by
  have hM := hw.1
  have h16 := hW.2.2.2.2.1
  intro j
  induction j with
  | zero =>
    intro t mem hj hi
    have e : t = K 40 := by omega
    subst e
    have hi' := hi
    obtain ⟨i1, i2, i3, i4, i5, i6⟩ := hi'
    have h1 := h.fr i1 (by simp [sMA])
    obtain ⟨m1, m2, m3⟩ := hm.fr i1 i2 (by simp [sMA]) (by simp [sMA])
    have hmz : nI M = 0 ↔ M = 0 := by rw [show (0 : Int32) = nI 0 from rfl, nI_eq (by omega) (by omega)]
    refine pr_iload_n 194 dX9_laysAccount_193 rfl rfl rfl ?_
    refine pr_aload_n 195 dX9_laysAccount_194 rfl rfl rfl ?_
    refine pr_invD0 198 dX9_laysAccount_195 vX9_173 mX9_trips (sp_X9_trips h1) ⟨Nat.le_of_ble_eq_true rfl, Nat.le_of_ble_eq_true rfl⟩ (Nat.le_of_ble_eq_true rfl) rfl ?_
    refine pr_icmp_ge 220 201 dX9_laysAccount_198 rfl rfl (fun c_198 => ?_) (fun c_198 => absurd (Int32.le_refl _) (c_198))
    refine pr_aload_n 221 dX9_laysAccount_220 rfl rfl rfl ?_
    refine pr_getI 224 dX9_laysAccount_221 fX9_176 rfl ?_
    rw [m1]
    refine pr_if_ne 228 227 dX9_laysAccount_224 rfl rfl (fun c_224 => ?_) (fun c_224 => ?_)
    · refine pr_iconst (0) 229 dX9_laysAccount_228 (by decide) rfl ?_
      refine pr_istore_n 230 dX9_laysAccount_229 rfl (pm_st_1 rfl rfl) rfl ?_
      exact lp_X9_laE h hW hw hm M 0 mem (by omega) hi (fun l hl => absurd hl (Nat.not_lt_zero _))
    · refine pr_return dX9_laysAccount_227 rfl ?_
      rw [hmz] at c_224
      subst c_224
      exact ⟨rfl, i1, i2, fun t ht => ⟨(i4 t ht).1, (i4 t ht).2.1, (i4 t ht).2.2, fun l hl => absurd hl (Nat.not_lt_zero _)⟩, i3, fun l hl => absurd hl (Nat.not_lt_zero _)⟩
  | succ j ih =>
    intro t mem hj hi
    obtain ⟨i1, i2, i3, i4, i5, i6⟩ := hi
    have h1 := h.fr i1 (by simp [sMA])
    have hm1 := hm.fr i1 i2 (by simp [sMA]) (by simp [sMA])
    have hidl : (if idl K w lk M t = true then (1 : Int32) else 0) = 0 ↔ ¬ idl K w lk M t = true := by
      by_cases z : idl K w lk M t = true <;> simp [z]
    refine pr_iload_n 194 dX9_laysAccount_193 rfl rfl rfl ?_
    refine pr_aload_n 195 dX9_laysAccount_194 rfl rfl rfl ?_
    refine pr_invD0 198 dX9_laysAccount_195 vX9_173 mX9_trips (sp_X9_trips h1) ⟨Nat.le_of_ble_eq_true rfl, Nat.le_of_ble_eq_true rfl⟩ (Nat.le_of_ble_eq_true rfl) rfl ?_
    refine pr_icmp_ge 220 201 dX9_laysAccount_198 rfl rfl (fun c_198 => absurd (c_198) (nI_ge (by omega) (by omega))) (fun c_198 => ?_)
    refine pr_aload_n 202 dX9_laysAccount_201 rfl rfl rfl ?_
    refine pr_iload_n 203 dX9_laysAccount_202 rfl rfl rfl ?_
    refine pr_invD1 206 dX9_laysAccount_203 vX9_206 mX9_isIdle (sp_X9_isIdle h1 hW hw hm1 hz (t := t) (by omega)) ⟨Nat.le_of_ble_eq_true rfl, Nat.le_of_ble_eq_true rfl⟩ (Nat.le_of_ble_eq_true rfl) rfl ?_
    refine pr_if_ne 214 209 dX9_laysAccount_206 rfl rfl (fun c_206 => ?_) (fun c_206 => ?_)
    · rw [hidl, Decidable.not_not] at c_206
      refine pr_iinc 217 dX9_laysAccount_214 rfl (by first | exact pm_inc _ | rfl) (pm_st_1 rfl rfl) rfl ?_
      refine pr_goto 193 dX9_laysAccount_217 rfl ?_
      refine ih (t + 1) mem (by omega) ⟨i1, i2, i3, i4, fun u hu l hl => ?_, fun l hl => ?_⟩
      · rw [i5 u hu l hl]
        by_cases z : u < t
        · rw [if_pos z, if_pos (by omega)]
        · rw [if_neg z]
          by_cases y : u = t
          · subst y
            rw [if_pos (by omega), oft, if_pos c_206]
          · rw [if_neg (by omega)]
      · rw [i6 l hl, sm]
        rw [show oft K w lk M t l = 0 by rw [oft, if_pos c_206], Nat.add_zero]
    · rw [hidl] at c_206
      refine pr_aload_n 210 dX9_laysAccount_209 rfl rfl rfl ?_
      refine pr_iload_n 211 dX9_laysAccount_210 rfl rfl rfl ?_
      refine pr_inv0R1 214 dX9_laysAccount_211 vX9_215 mX9_laysTrip (sp_X9_laysTrip h1 hW hw hm1 hz (t := t) (by omega) c_206 (i4 t (by omega)).2.2 i6 (fun l hl => by rw [i5 t (by omega) l hl, if_neg (by omega)]; rfl)) ⟨Nat.le_of_ble_eq_true rfl, Nat.le_of_ble_eq_true rfl⟩ (Nat.le_of_ble_eq_true rfl) rfl (fun mem1 g1 => ?_)
      refine pr_iinc 217 dX9_laysAccount_214 rfl (by first | exact pm_inc _ | rfl) (pm_st_1 rfl rfl) rfl ?_
      refine pr_goto 193 dX9_laysAccount_217 rfl ?_
      obtain ⟨j1, j2, j3, j4⟩ := g1
      have jf : pm_fr sMA mem mem1 := j1.mono (fun t i h => ⟨by
        have := h.1
        simp at this ⊢
        rcases this with z | z | z | z | z | z <;> simp [z], h.2⟩)
      refine ih (t + 1) mem1 (by omega) ⟨i1.tr jf, i2.tr (mdO.fr j1 (by simp [sMT])), by rw [(j1 10009909 0 (by simp [sMT])).1]; exact i3, fun u hu => ?_, fun u hu l hl => ?_, fun l hl => ?_⟩
      · rw [(j1 20016377 0 (by simp [sMT])).1, (j1 20016379 0 (by simp [sMT])).1, (j1 20016378 0 (by simp [sMT])).1]
        exact i4 u hu
      · by_cases z : u = t
        · subst z
          rw [j2 l hl, if_pos (by omega)]
        · rw [j3 _ (fun l' hl' => by omega), i5 u hu l hl]
          by_cases y : u < t
          · rw [if_pos y, if_pos (by omega)]
          · rw [if_neg y, if_neg (by omega)]
      · rw [j4 l hl]; rfl
/-- C: up to trip t its closed part has gone where it goes -/
def laC (mem0 mem : pm_M) (K w lk : Nat → Nat) (M t : Nat) : Prop :=
  pm_fr sMA mem0 mem ∧ mdO mem0 mem ∧ mem.1 10009909 0 28 = nI (sm (fun k => if hasT K k = true then 0 else K k) (K 38) + sm (fun u => if dst K w lk M u = none then cld K u else 0) t) ∧ (∀ u, u < K 40 → mem.1 20016377 0 u = nI (cld K u) ∧ (u < t → mem.1 20016379 0 u = onI (if idl K w lk M u = true then hr K w lk M u else none)) ∧ mem.1 20016378 0 u = nI (sm (fun v => if dst K w lk M v = some u then cld K v else 0) t)) ∧ (∀ i, i < 289 → mem.1 20289381 0 i = 0) ∧ ∀ l, l < 17 → mem.1 20017380 0 l = 0
set_option maxRecDepth 100000 in
theorem lp_X9_laC (h : rowR 20869371 mem0 K) (hW : WF K) (hw : WL K w lk M) (hm : mwR mem0 w lk M o) (hz : outZ w M o) :
    ∀ j t mem a2, t + j = K 40 → laC mem0 mem K w lk M t → PR cX9_laysAccount RX9 3 5 114 97 [some (pR 10009909 0), some (pI (nI t)), a2] [] mem (pm_RX cX9_laysAccount none (maPost mem0 K w lk M)) := by
  have hM := hw.1
  have h16 := hW.2.2.2.2.1
  intro j
  induction j with
  | zero =>
    intro t mem a2 hj hi
    have e : t = K 40 := by omega
    subst e
    obtain ⟨i1, i2, i3, i4, i5, i6⟩ := hi
    have h1 := h.fr i1 (by simp [sMA])
    refine pr_iload_n 98 dX9_laysAccount_97 rfl rfl rfl ?_
    refine pr_aload_n 99 dX9_laysAccount_98 rfl rfl rfl ?_
    refine pr_invD0 102 dX9_laysAccount_99 vX9_173 mX9_trips (sp_X9_trips h1) ⟨Nat.le_of_ble_eq_true rfl, Nat.le_of_ble_eq_true rfl⟩ (Nat.le_of_ble_eq_true rfl) rfl ?_
    refine pr_icmp_ge 191 105 dX9_laysAccount_102 rfl rfl (fun c_102 => ?_) (fun c_102 => absurd (Int32.le_refl _) (c_102))
    refine pr_iconst (0) 192 dX9_laysAccount_191 (by decide) rfl ?_
    refine pr_istore_n 193 dX9_laysAccount_192 rfl (pm_st_1 rfl rfl) rfl ?_
    refine lp_X9_laD h hW hw hm hz (K 40) 0 mem (by omega) ⟨i1, i2, i3, fun u hu => ⟨(i4 u hu).1, (i4 u hu).2.1 hu, (i4 u hu).2.2⟩, fun u hu l hl => ?_, fun l hl => ?_⟩
    · rw [i5 _ (by omega), if_neg (Nat.not_lt_zero _)]; rfl
    · rw [i6 l (by omega)]; rfl
  | succ j ih =>
    intro t mem a2 hj hi
    obtain ⟨i1, i2, i3, i4, i5, i6⟩ := hi
    have h1 := h.fr i1 (by simp [sMA])
    have hm1 := hm.fr i1 i2 (by simp [sMA]) (by simp [sMA])
    have hidl : (if idl K w lk M t = true then (1 : Int32) else 0) = 0 ↔ ¬ idl K w lk M t = true := by
      by_cases z : idl K w lk M t = true <;> simp [z]
    have hct := (i4 t (by omega)).1
    have fr2 : ∀ x, pm_fr sMA mem (pm_uI mem 20016379 0 t x) := fun x => pm_fr.rf.uI ⟨by simp, rfl⟩
    have idl2 : ∀ x, Cd yX9_isIdle cX9_isIdle 2 (some .boolean) 3 71 [pR 10009909 0, pI (nI t)] (pm_uI mem 20016379 0 t x) (some (pI (if idl K w lk M t = true then 1 else 0))) (pm_uI mem 20016379 0 t x) := fun x => sp_X9_isIdle (h1.fr (fr2 x) (by simp [sMA])) hW hw (hm1.fr (fr2 x) (mdO.rf.uI (by decide)) (by simp [sMA]) (by simp [sMA])) hz (t := t) (by omega)
    have rest : ∀ x, x = onI (if idl K w lk M t = true then hr K w lk M t else none) → PR cX9_laysAccount RX9 3 5 114 127 [some (pR 10009909 0), some (pI (nI t)), a2] [pI x, pI (nI t), pR 20016379 0] mem (pm_RX cX9_laysAccount none (maPost mem0 K w lk M)) := by
      intro x hx
      have go : PR cX9_laysAccount RX9 3 5 114 147 [some (pR 10009909 0), some (pI (nI t)), some (pI (onI (dst K w lk M t)))] [] (pm_uI mem 20016379 0 t x) (pm_RX cX9_laysAccount none (maPost mem0 K w lk M)) := by
        have hdl : ∀ u, dst K w lk M t = some u → u < K 40 := fun u hu => by
          unfold dst at hu
          split at hu
          · exact hr_lt (by omega) hu
          · cases hu; omega
        have hon : onI (dst K w lk M t) = -1 ↔ dst K w lk M t = none := by
          cases hh : dst K w lk M t with
          | none => simp [onI]
          | some u =>
            have := hdl u hh
            simp only [onI]
            constructor
            · intro z
              have z2 := congrArg Int32.toInt z
              rw [nI_toInt (by omega), show (-1 : Int32).toInt = -1 from rfl] at z2
              omega
            · intro z; cases z
        refine pr_iload_n 148 dX9_laysAccount_147 rfl rfl rfl ?_
        refine pr_iconst (-1) 149 dX9_laysAccount_148 (by decide) rfl ?_
        refine pr_icmp_ne 170 152 dX9_laysAccount_149 rfl rfl (fun c_149 => ?_) (fun c_149 => ?_)
        · rw [hon] at c_149
          obtain ⟨u, hu⟩ : ∃ u, dst K w lk M t = some u := by
            cases hh : dst K w lk M t with
            | none => exact absurd hh c_149
            | some u => exact ⟨u, rfl⟩
          have hul := hdl u hu
          rw [hu]
          refine pr_aload_n 171 dX9_laysAccount_170 rfl rfl rfl ?_
          refine pr_getR0 174 dX9_laysAccount_171 fX9_82 rfl ?_
          refine pr_iload_n 175 dX9_laysAccount_174 rfl rfl rfl ?_
          refine pr_dup2 rfl rfl 176 dX9_laysAccount_175 rfl ?_
          refine pr_iaload u 177 dX9_laysAccount_176 rfl rfl rfl (by omega) rfl ?_
          rw [pm_gIn (by simp), (i4 u hul).2.2]
          refine pr_aload_n 178 dX9_laysAccount_177 rfl rfl rfl ?_
          refine pr_getR0 181 dX9_laysAccount_178 fX9_79 rfl ?_
          refine pr_iload_n 182 dX9_laysAccount_181 rfl rfl rfl ?_
          refine pr_iaload t 183 dX9_laysAccount_182 rfl rfl rfl (by omega) rfl ?_
          rw [pm_gIn (by simp), hct]
          refine pr_iadd 184 dX9_laysAccount_183 rfl ?_
          rw [nI_add]
          refine pr_iastore u 185 dX9_laysAccount_184 rfl rfl rfl (by omega) rfl ?_
          refine pr_iinc 188 dX9_laysAccount_185 rfl (by first | exact pm_inc _ | rfl) (pm_st_1 rfl rfl) rfl ?_
          refine pr_goto 97 dX9_laysAccount_188 rfl ?_
          refine ih (t + 1) _ _ (by omega) ⟨(i1.uI ⟨by simp, rfl⟩).uI ⟨by simp, rfl⟩, (i2.uI (by decide)).uI (by decide), ?_, fun v hv => ⟨?_, fun hvt => ?_, ?_⟩, fun i hi => ?_, fun l hl => ?_⟩
          · rw [pm_gIn (by simp), pm_gIn (by simp), i3, sm, hu, if_neg (by simp), Nat.add_zero]
          · rw [pm_gIn (by simp), pm_gIn (by simp)]; exact (i4 v hv).1
          · by_cases z : v = t
            · subst z; rw [pm_gIn (by simp), pm_gIe]; exact hx
            · rw [pm_gIn (by simp), pm_gIn (fun y => z y.2.2)]; exact (i4 v hv).2.1 (by omega)
          · by_cases z : v = u
            · subst z; rw [pm_gIe, sm, hu, if_pos rfl]
            · rw [pm_gIn (fun y => z y.2.2), pm_gIn (by simp), (i4 v hv).2.2, sm, hu, if_neg (fun y => z (Option.some.inj y).symm), Nat.add_zero]
          · rw [pm_gIn (by simp), pm_gIn (by simp)]; exact i5 i hi
          · rw [pm_gIn (by simp), pm_gIn (by simp)]; exact i6 l hl
        · rw [hon] at c_149
          refine pr_aload_n 153 dX9_laysAccount_152 rfl rfl rfl ?_
          refine pr_dup rfl 154 dX9_laysAccount_153 rfl ?_
          refine pr_getI 157 dX9_laysAccount_154 fX9_195 rfl ?_
          rw [pm_gIn (by simp), i3]
          refine pr_aload_n 158 dX9_laysAccount_157 rfl rfl rfl ?_
          refine pr_getR0 161 dX9_laysAccount_158 fX9_79 rfl ?_
          refine pr_iload_n 162 dX9_laysAccount_161 rfl rfl rfl ?_
          refine pr_iaload t 163 dX9_laysAccount_162 rfl rfl rfl (by omega) rfl ?_
          rw [pm_gIn (by simp), hct]
          refine pr_iadd 164 dX9_laysAccount_163 rfl ?_
          rw [nI_add]
          refine pr_putI 167 dX9_laysAccount_164 fX9_195 rfl ?_
          refine pr_goto 185 dX9_laysAccount_167 rfl ?_
          refine pr_iinc 188 dX9_laysAccount_185 rfl (by first | exact pm_inc _ | rfl) (pm_st_1 rfl rfl) rfl ?_
          refine pr_goto 97 dX9_laysAccount_188 rfl ?_
          refine ih (t + 1) _ _ (by omega) ⟨(i1.uI ⟨by simp, rfl⟩).uI ⟨by simp, rfl⟩, (i2.uI (by decide)).uO, ?_, fun v hv => ⟨?_, fun hvt => ?_, ?_⟩, fun i hi => ?_, fun l hl => ?_⟩
          · rw [pm_gIe, sm, c_149, if_pos rfl, Nat.add_assoc]
          · rw [pm_gIn (by simp), pm_gIn (by simp)]; exact (i4 v hv).1
          · by_cases z : v = t
            · subst z; rw [pm_gIn (by simp), pm_gIe]; exact hx
            · rw [pm_gIn (by simp), pm_gIn (fun y => z y.2.2)]; exact (i4 v hv).2.1 (by omega)
          · rw [pm_gIn (by simp), pm_gIn (by simp), (i4 v hv).2.2, sm, c_149, if_neg (by simp), Nat.add_zero]
          · rw [pm_gIn (by simp), pm_gIn (by simp)]; exact i5 i hi
          · rw [pm_gIn (by simp), pm_gIn (by simp)]; exact i6 l hl
      refine pr_iastore t 128 dX9_laysAccount_127 rfl rfl rfl (by omega) rfl ?_
      refine pr_aload_n 129 dX9_laysAccount_128 rfl rfl rfl ?_
      refine pr_iload_n 130 dX9_laysAccount_129 rfl rfl rfl ?_
      refine pr_invD1 133 dX9_laysAccount_130 vX9_206 mX9_isIdle (idl2 x) ⟨Nat.le_of_ble_eq_true rfl, Nat.le_of_ble_eq_true rfl⟩ (Nat.le_of_ble_eq_true rfl) rfl ?_
      refine pr_if_eq 145 136 dX9_laysAccount_133 rfl rfl (fun c_133 => ?_) (fun c_133 => ?_)
      · rw [hidl] at c_133
        refine pr_iload_n 146 dX9_laysAccount_145 rfl rfl rfl ?_
        refine pr_istore_n 147 dX9_laysAccount_146 rfl (pm_st_2 rfl rfl) rfl ?_
        have := go
        rw [show dst K w lk M t = some t from if_neg c_133] at this
        exact this
      · rw [hidl, Decidable.not_not] at c_133
        refine pr_aload_n 137 dX9_laysAccount_136 rfl rfl rfl ?_
        refine pr_getR0 140 dX9_laysAccount_137 fX9_85 rfl ?_
        refine pr_iload_n 141 dX9_laysAccount_140 rfl rfl rfl ?_
        refine pr_iaload t 142 dX9_laysAccount_141 rfl rfl rfl (by omega) rfl ?_
        rw [pm_gIe, hx, if_pos c_133]
        refine pr_goto 146 dX9_laysAccount_142 rfl ?_
        refine pr_istore_n 147 dX9_laysAccount_146 rfl (pm_st_2 rfl rfl) rfl ?_
        have := go
        rw [show dst K w lk M t = hr K w lk M t from if_pos c_133] at this
        rw [hx, if_pos c_133] at this
        exact this
    refine pr_iload_n 98 dX9_laysAccount_97 rfl rfl rfl ?_
    refine pr_aload_n 99 dX9_laysAccount_98 rfl rfl rfl ?_
    refine pr_invD0 102 dX9_laysAccount_99 vX9_173 mX9_trips (sp_X9_trips h1) ⟨Nat.le_of_ble_eq_true rfl, Nat.le_of_ble_eq_true rfl⟩ (Nat.le_of_ble_eq_true rfl) rfl ?_
    refine pr_icmp_ge 191 105 dX9_laysAccount_102 rfl rfl (fun c_102 => absurd (c_102) (nI_ge (by omega) (by omega))) (fun c_102 => ?_)
    refine pr_aload_n 106 dX9_laysAccount_105 rfl rfl rfl ?_
    refine pr_getR0 109 dX9_laysAccount_106 fX9_85 rfl ?_
    refine pr_iload_n 110 dX9_laysAccount_109 rfl rfl rfl ?_
    refine pr_aload_n 111 dX9_laysAccount_110 rfl rfl rfl ?_
    refine pr_iload_n 112 dX9_laysAccount_111 rfl rfl rfl ?_
    refine pr_invD1 115 dX9_laysAccount_112 vX9_206 mX9_isIdle (sp_X9_isIdle h1 hW hw hm1 hz (t := t) (by omega)) ⟨Nat.le_of_ble_eq_true rfl, Nat.le_of_ble_eq_true rfl⟩ (Nat.le_of_ble_eq_true rfl) rfl ?_
    refine pr_if_eq 126 118 dX9_laysAccount_115 rfl rfl (fun c_115 => ?_) (fun c_115 => ?_)
    · rw [hidl] at c_115
      refine pr_iconst (-1) 127 dX9_laysAccount_126 (by decide) rfl ?_
      exact rest _ (by rw [if_neg c_115]; rfl)
    · rw [hidl, Decidable.not_not] at c_115
      refine pr_aload_n 119 dX9_laysAccount_118 rfl rfl rfl ?_
      refine pr_iload_n 120 dX9_laysAccount_119 rfl rfl rfl ?_
      refine pr_invD1 123 dX9_laysAccount_120 vX9_212 mX9_nextOf (sp_X9_nextOf h1 hW hw hm1 hz (t := t) (by omega)) ⟨Nat.le_of_ble_eq_true rfl, Nat.le_of_ble_eq_true rfl⟩ (Nat.le_of_ble_eq_true rfl) rfl ?_
      refine pr_goto 127 dX9_laysAccount_123 rfl ?_
      exact rest _ (by rw [if_pos c_115])
set_option maxRecDepth 100000 in
theorem lp_X9_laAB (h : rowR 20869371 mem0 K) (hW : WF K) (hw : WL K w lk M) (hm : mwR mem0 w lk M o) (hz : outZ w M o) :
    ∀ j k mem, k + j = K 38 → pm_fr sMA mem0 mem → mdO mem0 mem → mem.1 10009909 0 28 = nI (sm (fun k => if hasT K k = true then 0 else K k) k) → (∀ u, u < K 40 → K (101 + 6 * u) < k → mem.1 20016377 0 u = nI (cld K u)) → (∀ i, i < 289 → mem.1 20289381 0 i = 0) → (∀ l, l < 17 → mem.1 20017380 0 l = 0) → PR cX9_laysAccount RX9 3 5 114 50 [some (pR 10009909 0), some (pI (nI k)), none] [] mem (pm_RX cX9_laysAccount none (maPost mem0 K w lk M)) := by
  have h16 := hW.2.2.2.2.1
  have h4 := hW.2.2.1
  intro j
  induction j with
  | zero =>
    intro k mem hj i1 i2 i3 i4 i5 i6
    have e : k = K 38 := by omega
    subst e
    have h1 := h.fr i1 (by simp [sMA])
    have lpB : ∀ j t mem, t + j = K 40 → pm_fr sMA mem0 mem → mdO mem0 mem → mem.1 10009909 0 28 = nI (sm (fun k => if hasT K k = true then 0 else K k) (K 38)) → (∀ u, u < K 40 → mem.1 20016377 0 u = nI (cld K u)) → (∀ i, i < 289 → mem.1 20289381 0 i = 0) → (∀ l, l < 17 → mem.1 20017380 0 l = 0) → (∀ u, u < t → mem.1 20016378 0 u = 0) → PR cX9_laysAccount RX9 3 5 114 74 [some (pR 10009909 0), some (pI (nI t)), none] [] mem (pm_RX cX9_laysAccount none (maPost mem0 K w lk M)) := by
      intro j
      induction j with
      | zero =>
        intro t mem hj i1 i2 i3 i4 i5 i6 i7
        have e : t = K 40 := by omega
        subst e
        have h1 := h.fr i1 (by simp [sMA])
        refine pr_iload_n 75 dX9_laysAccount_74 rfl rfl rfl ?_
        refine pr_aload_n 76 dX9_laysAccount_75 rfl rfl rfl ?_
        refine pr_invD0 79 dX9_laysAccount_76 vX9_173 mX9_trips (sp_X9_trips h1) ⟨Nat.le_of_ble_eq_true rfl, Nat.le_of_ble_eq_true rfl⟩ (Nat.le_of_ble_eq_true rfl) rfl ?_
        refine pr_icmp_ge 95 82 dX9_laysAccount_79 rfl rfl (fun c_79 => ?_) (fun c_79 => absurd (Int32.le_refl _) (c_79))
        refine pr_iconst (0) 96 dX9_laysAccount_95 (by decide) rfl ?_
        refine pr_istore_n 97 dX9_laysAccount_96 rfl (pm_st_1 rfl rfl) rfl ?_
        exact lp_X9_laC h hW hw hm hz (K 40) 0 mem _ (by omega) ⟨i1, i2, i3, fun u hu => ⟨i4 u hu, fun z => absurd z (Nat.not_lt_zero _), i7 u hu⟩, i5, i6⟩
      | succ j ih =>
        intro t mem hj i1 i2 i3 i4 i5 i6 i7
        have h1 := h.fr i1 (by simp [sMA])
        refine pr_iload_n 75 dX9_laysAccount_74 rfl rfl rfl ?_
        refine pr_aload_n 76 dX9_laysAccount_75 rfl rfl rfl ?_
        refine pr_invD0 79 dX9_laysAccount_76 vX9_173 mX9_trips (sp_X9_trips h1) ⟨Nat.le_of_ble_eq_true rfl, Nat.le_of_ble_eq_true rfl⟩ (Nat.le_of_ble_eq_true rfl) rfl ?_
        refine pr_icmp_ge 95 82 dX9_laysAccount_79 rfl rfl (fun c_79 => absurd (c_79) (nI_ge (by omega) (by omega))) (fun c_79 => ?_)
        refine pr_aload_n 83 dX9_laysAccount_82 rfl rfl rfl ?_
        refine pr_getR0 86 dX9_laysAccount_83 fX9_82 rfl ?_
        refine pr_iload_n 87 dX9_laysAccount_86 rfl rfl rfl ?_
        refine pr_iconst (0) 88 dX9_laysAccount_87 (by decide) rfl ?_
        refine pr_iastore t 89 dX9_laysAccount_88 rfl rfl rfl (by omega) rfl ?_
        refine pr_iinc 92 dX9_laysAccount_89 rfl (by first | exact pm_inc _ | rfl) (pm_st_1 rfl rfl) rfl ?_
        refine pr_goto 74 dX9_laysAccount_92 rfl ?_
        refine ih (t + 1) _ (by omega) (i1.uI ⟨by simp, rfl⟩) (i2.uI (by decide)) (by rw [pm_gIn (by simp)]; exact i3) (fun u hu => by rw [pm_gIn (by simp)]; exact i4 u hu) (fun i hi => by rw [pm_gIn (by simp)]; exact i5 i hi) (fun l hl => by rw [pm_gIn (by simp)]; exact i6 l hl) (fun u hu => ?_)
        by_cases z : u = t
        · subst z; rw [pm_gIe]
        · rw [pm_gIn (fun y => z y.2.2)]; exact i7 u (by omega)
    refine pr_iload_n 51 dX9_laysAccount_50 rfl rfl rfl ?_
    refine pr_aload_n 52 dX9_laysAccount_51 rfl rfl rfl ?_
    refine pr_getR0 55 dX9_laysAccount_52 fX9_64 rfl ?_
    refine pr_bipush (38) 57 dX9_laysAccount_55 (by decide) rfl ?_
    refine pr_iaload 38 58 dX9_laysAccount_57 rfl rfl rfl (by omega) rfl ?_
    rw [h1.1 38 (by omega) (by omega)]
    refine pr_icmp_ge 72 61 dX9_laysAccount_58 rfl rfl (fun c_58 => ?_) (fun c_58 => absurd (Int32.le_refl _) (c_58))
    refine pr_iconst (0) 73 dX9_laysAccount_72 (by decide) rfl ?_
    refine pr_istore_n 74 dX9_laysAccount_73 rfl (pm_st_1 rfl rfl) rfl ?_
    exact lpB (K 40) 0 mem (by omega) i1 i2 i3 (fun u hu => i4 u hu (hW.2.2.2.2.2.2.2.2.1 u hu).2.1) i5 i6 (fun u hu => absurd hu (Nat.not_lt_zero _))
  | succ j ih =>
    intro k mem hj i1 i2 i3 i4 i5 i6
    have h1 := h.fr i1 (by simp [sMA])
    refine pr_iload_n 51 dX9_laysAccount_50 rfl rfl rfl ?_
    refine pr_aload_n 52 dX9_laysAccount_51 rfl rfl rfl ?_
    refine pr_getR0 55 dX9_laysAccount_52 fX9_64 rfl ?_
    refine pr_bipush (38) 57 dX9_laysAccount_55 (by decide) rfl ?_
    refine pr_iaload 38 58 dX9_laysAccount_57 rfl rfl rfl (by omega) rfl ?_
    rw [h1.1 38 (by omega) (by omega)]
    refine pr_icmp_ge 72 61 dX9_laysAccount_58 rfl rfl (fun c_58 => absurd (c_58) (nI_ge (by omega) (by omega))) (fun c_58 => ?_)
    refine pr_aload_n 62 dX9_laysAccount_61 rfl rfl rfl ?_
    refine pr_iload_n 63 dX9_laysAccount_62 rfl rfl rfl ?_
    refine pr_inv0R1 66 dX9_laysAccount_63 vX9_209 mX9_closes (sp_X9_closes h1 hW (k := k) (by omega) i3) ⟨Nat.le_of_ble_eq_true rfl, Nat.le_of_ble_eq_true rfl⟩ (Nat.le_of_ble_eq_true rfl) rfl (fun mem1 g1 => ?_)
    refine pr_iinc 69 dX9_laysAccount_66 rfl (by first | exact pm_inc _ | rfl) (pm_st_1 rfl rfl) rfl ?_
    refine pr_goto 50 dX9_laysAccount_69 rfl ?_
    obtain ⟨j1, j2, j3, j4⟩ := g1
    have jf : pm_fr sMA mem mem1 := j1.mono (fun t i h => ⟨by
      have := h.1
      simp at this ⊢
      rcases this with z | z | z | z | z | z <;> simp [z], h.2⟩)
    refine ih (k + 1) mem1 (by omega) (i1.tr jf) (i2.tr j2) j3 (fun u hu hk => ?_) (fun i hi => by rw [(j1 20289381 0 (by simp [sMC])).1]; exact i5 i hi) (fun l hl => by rw [(j1 20017380 0 (by simp [sMC])).1]; exact i6 l hl)
    rw [j4 u hu]
    by_cases z : K (101 + 6 * u) = k
    · rw [if_pos z]
    · rw [if_neg z]; exact i4 u hu (by omega)
set_option maxRecDepth 100000 in
theorem sp_X9_laysAccount (h : rowR 20869371 mem0 K) (hW : WF K) (hw : WL K w lk M) (hm : mwR mem0 w lk M o) (hz : outZ w M o) : Cl yX9_laysAccount cX9_laysAccount 3 none 5 114 [pR 10009909 0] mem0 (maPost mem0 K w lk M) := by
  have lp2 : ∀ j k mem, k + j = 17 → pm_fr sMA mem0 mem → mdO mem0 mem → mem.1 10009909 0 28 = 0 → (∀ i, i < 289 → mem.1 20289381 0 i = 0) → (∀ l, l < k → mem.1 20017380 0 l = 0) → PR cX9_laysAccount RX9 3 5 114 29 [some (pR 10009909 0), some (pI (nI k)), none] [] mem (pm_RX cX9_laysAccount none (maPost mem0 K w lk M)) := by
    intro j
    induction j with
    | zero =>
      intro k mem hj i1 i2 i3 i4 i5
      have e : k = 17 := by omega
      subst e
      refine pr_iload_n 30 dX9_laysAccount_29 rfl rfl rfl ?_
      refine pr_bipush (17) 32 dX9_laysAccount_30 (by decide) rfl ?_
      refine pr_icmp_ge 48 35 dX9_laysAccount_32 rfl rfl (fun c_32 => ?_) (fun c_32 => absurd (by decide) (c_32))
      refine pr_iconst (0) 49 dX9_laysAccount_48 (by decide) rfl ?_
      refine pr_istore_n 50 dX9_laysAccount_49 rfl (pm_st_1 rfl rfl) rfl ?_
      exact lp_X9_laAB h hW hw hm hz (K 38) 0 mem (by omega) i1 i2 i3 (fun u _ hu => absurd hu (Nat.not_lt_zero _)) i4 i5
    | succ j ih =>
      intro k mem hj i1 i2 i3 i4 i5
      refine pr_iload_n 30 dX9_laysAccount_29 rfl rfl rfl ?_
      refine pr_bipush (17) 32 dX9_laysAccount_30 (by decide) rfl ?_
      refine pr_icmp_ge 48 35 dX9_laysAccount_32 rfl rfl (fun c_32 => absurd (c_32) (nI_ge (b := 17) (by omega) (by omega))) (fun c_32 => ?_)
      refine pr_aload_n 36 dX9_laysAccount_35 rfl rfl rfl ?_
      refine pr_getR0 39 dX9_laysAccount_36 fX9_88 rfl ?_
      refine pr_iload_n 40 dX9_laysAccount_39 rfl rfl rfl ?_
      refine pr_iconst (0) 41 dX9_laysAccount_40 (by decide) rfl ?_
      refine pr_iastore k 42 dX9_laysAccount_41 rfl rfl rfl (by omega) rfl ?_
      refine pr_iinc 45 dX9_laysAccount_42 rfl (by first | exact pm_inc _ | rfl) (pm_st_1 rfl rfl) rfl ?_
      refine pr_goto 29 dX9_laysAccount_45 rfl ?_
      refine ih (k + 1) _ (by omega) (i1.uI ⟨by simp, rfl⟩) (i2.uI (by decide)) (by rw [pm_gIn (by simp)]; exact i3) (fun i hi => by rw [pm_gIn (by simp)]; exact i4 i hi) (fun l hl => ?_)
      by_cases z : l = k
      · subst z; rw [pm_gIe]
      · rw [pm_gIn (fun y => z y.2.2)]; exact i5 l (by omega)
  have lp1 : ∀ j k mem, k + j = 289 → pm_fr sMA mem0 mem → mdO mem0 mem → mem.1 10009909 0 28 = 0 → (∀ i, i < k → mem.1 20289381 0 i = 0) → PR cX9_laysAccount RX9 3 5 114 7 [some (pR 10009909 0), some (pI (nI k)), none] [] mem (pm_RX cX9_laysAccount none (maPost mem0 K w lk M)) := by
    intro j
    induction j with
    | zero =>
      intro k mem hj i1 i2 i3 i4
      have e : k = 289 := by omega
      subst e
      refine pr_iload_n 8 dX9_laysAccount_7 rfl rfl rfl ?_
      refine pr_sipush (289) 11 dX9_laysAccount_8 (by decide) rfl ?_
      refine pr_icmp_ge 27 14 dX9_laysAccount_11 rfl rfl (fun c_11 => ?_) (fun c_11 => absurd (by decide) (c_11))
      refine pr_iconst (0) 28 dX9_laysAccount_27 (by decide) rfl ?_
      refine pr_istore_n 29 dX9_laysAccount_28 rfl (pm_st_1 rfl rfl) rfl ?_
      exact lp2 17 0 mem (by omega) i1 i2 i3 i4 (fun l hl => absurd hl (Nat.not_lt_zero _))
    | succ j ih =>
      intro k mem hj i1 i2 i3 i4
      refine pr_iload_n 8 dX9_laysAccount_7 rfl rfl rfl ?_
      refine pr_sipush (289) 11 dX9_laysAccount_8 (by decide) rfl ?_
      refine pr_icmp_ge 27 14 dX9_laysAccount_11 rfl rfl (fun c_11 => absurd (c_11) (nI_ge (b := 289) (by omega) (by omega))) (fun c_11 => ?_)
      refine pr_aload_n 15 dX9_laysAccount_14 rfl rfl rfl ?_
      refine pr_getR0 18 dX9_laysAccount_15 fX9_91 rfl ?_
      refine pr_iload_n 19 dX9_laysAccount_18 rfl rfl rfl ?_
      refine pr_iconst (0) 20 dX9_laysAccount_19 (by decide) rfl ?_
      refine pr_iastore k 21 dX9_laysAccount_20 rfl rfl rfl (by omega) rfl ?_
      refine pr_iinc 24 dX9_laysAccount_21 rfl (by first | exact pm_inc _ | rfl) (pm_st_1 rfl rfl) rfl ?_
      refine pr_goto 7 dX9_laysAccount_24 rfl ?_
      refine ih (k + 1) _ (by omega) (i1.uI ⟨by simp, rfl⟩) (i2.uI (by decide)) (by rw [pm_gIn (by simp)]; exact i3) (fun i hi => ?_)
      by_cases z : i = k
      · subst z; rw [pm_gIe]
      · rw [pm_gIn (fun y => z y.2.2)]; exact i4 i (by omega)
  refine Cl.of (own := RX9) rfl rfl (Nat.le_of_ble_eq_true rfl) rfl ?_; show PR _ _ _ _ _ _ [some _, none, none] _ _ _
  refine pr_aload_n 1 dX9_laysAccount_0 rfl rfl rfl ?_
  refine pr_iconst (0) 2 dX9_laysAccount_1 (by decide) rfl ?_
  refine pr_putI 5 dX9_laysAccount_2 fX9_195 rfl ?_
  refine pr_iconst (0) 6 dX9_laysAccount_5 (by decide) rfl ?_
  refine pr_istore_n 7 dX9_laysAccount_6 rfl (pm_st_1 rfl rfl) rfl ?_
  exact lp1 289 0 _ (by omega) (pm_fr.rf.uI ⟨by simp, rfl⟩) mdO.rf.uO (by rw [pm_gIe]) (fun i hi => absurd hi (Nat.not_lt_zero _))
end MLA
