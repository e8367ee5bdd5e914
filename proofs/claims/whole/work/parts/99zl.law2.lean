/-! the law: its calls, its loop (made by wip/whole/gen99zl.py) -/
abbrev lwL (i : Nat) (o5 o6 : Option pm_v) : List (Option pm_v) := [some (pR 99 300), some (pR 10008908 0), some (pR 10009909 0), some (pR 40001990 0), some (pI (nI i)), o5, o6]
theorem csL_load : pm_CS RL 54 yL_load := ⟨pm_t4 146 rfl, pm_t4 147 rfl⟩
theorem csL_trip : pm_CS RL 63 yL_trip := ⟨pm_t4 234 rfl, pm_t4 235 rfl⟩
theorem mwL_load : Cond.codeWith yL_load cL_load 5 (some .int) lwH ∈ lw_tbl ∧ Cond.initialized yL_load.cls ∈ lw_tbl ∧ (yL_load.cls ≠ "java/lang/invoke/MethodHandle" ∧ yL_load.cls ≠ "java/lang/invoke/VarHandle") ∧ (parseMethodDescriptor yL_load.desc).map (fun d => d.parameters.length) = some 4 := ⟨cwL_load, pm_t1 0 rfl, ⟨by decide +kernel, by decide +kernel⟩, by decide +kernel⟩
theorem mwL_trip : Cond.codeWith yL_trip cL_trip 5 (some .int) lwH ∈ lw_tbl ∧ Cond.initialized yL_trip.cls ∈ lw_tbl ∧ (yL_trip.cls ≠ "java/lang/invoke/MethodHandle" ∧ yL_trip.cls ≠ "java/lang/invoke/VarHandle") ∧ (parseMethodDescriptor yL_trip.desc).map (fun d => d.parameters.length) = some 4 := ⟨cwL_trip, pm_t1 0 rfl, ⟨by decide +kernel, by decide +kernel⟩, by decide +kernel⟩
section LOOP
variable {p : Program} {l : Launch} {e : Env} {s : State} {m : MethodId} {below : List Frame} {meth : Method} {c : Code} {b L : Nat} {xs : Nat → Int32} {ad : pm_A} {D : va_G} {cs : Nat → ClassId}
variable {ka sg i : Nat} {o5 o6 : Option pm_v} {mem m0 : pm_M} {d d' n T : Nat} {K : Nat → Nat} {S : Nat → Nat → Nat} {B : Nat → Nat} {f : Int32}
theorem LC.out {x : Int64} (h : LC m0 d d' K n S T B f) : LC (pm_uJ m0 40001990 0 0 x) d d' K n S T B f := by
  have hf : pm_fr (fun t _ => t = 40001990) m0 (pm_uJ m0 40001990 0 0 x) := pm_fr.rf.uJ rfl
  have e8 := hf 10008908 0 (by decide)
  have e7 := hf 10007907 0 (by decide)
  have eb := hf 30840280 0 (by decide)
  exact ⟨⟨h.1.1.keep e8.2.2 hf (by simp) (by simp) (by simp) (by simp) (by simp), h.1.2.1.fr hf (by simp), h.1.2.2⟩, by rw [e8.2.2]; exact h.2.1, ⟨by rw [e7.1]; exact h.2.2.1.1, fun k hk => by rw [eb.1]; exact h.2.2.1.2 k hk⟩, by rw [e8.1]; exact h.2.2.2⟩
theorem LM.out {x : Int64} (h : LM m0 K n S T B f) : LM (pm_uJ m0 40001990 0 0 x) K n S T B f := h.fr (pm_fr.rf.uJ rfl : pm_fr (fun t _ => t = 40001990) m0 (pm_uJ m0 40001990 0 0 x)) (by intro t i h; subst h; decide)
theorem cs_feed (hC : lwC p l s m meth c b L xs ad D cs) (hk : ka ≤ 601024 ∧ sg ≤ 7293034) (hi : i + 6 ≤ L) (h : LI mem) (kont : ∀ mem, LI mem → LW p l e s m below meth c b ad D cs ka sg 871 (lwL i o5 o6) [] mem) : LW p l e s m below meth c b ad D cs ka sg 140 (lwL i o5 o6) [] mem := by
  refine lw_1 hC hk (pr_aload_n 141 dL_law_140 rfl rfl rfl (PR.done ⟨rfl, rfl, rfl, rfl⟩)) ?_
  refine lw_arg (k := 1) 147 hC hk dL_law_141 dL_law_142 dL_law_144 dL_law_145 dL_law_146 (by decide) rfl rfl (by omega) rfl ?_
  refine lw_arg (k := 2) 153 hC hk dL_law_147 dL_law_148 dL_law_150 dL_law_151 dL_law_152 (by decide) rfl rfl (by omega) rfl ?_
  refine lw_arg (k := 3) 159 hC hk dL_law_153 dL_law_154 dL_law_156 dL_law_157 dL_law_158 (by decide) rfl rfl (by omega) rfl ?_
  refine lw_arg (k := 4) 165 hC hk dL_law_159 dL_law_160 dL_law_162 dL_law_163 dL_law_164 (by decide) rfl rfl (by omega) rfl ?_
  refine lw_arg (k := 5) 171 hC hk dL_law_165 dL_law_166 dL_law_168 dL_law_169 dL_law_170 (by decide) rfl rfl (by omega) rfl ?_
  refine lw_inv (st := []) [pI (xs (i + 1)), pI (xs (i + 2)), pI (xs (i + 3)), pI (xs (i + 4)), pI (xs (i + 5))] 174 hC hk dL_law_171 vL_22 mX8_feed (tw_feed h _ _ _ _ _) ⟨Nat.le_of_ble_eq_true rfl, Nat.le_of_ble_eq_true rfl⟩ rfl (Nat.le_of_ble_eq_true rfl) rfl rfl (fun r m1 hr => ?_)
  obtain ⟨v, rfl, h2⟩ := hr
  refine lw_1 hC hk (pr_aload_n 175 dL_law_174 rfl rfl rfl (PR.done ⟨rfl, rfl, rfl, rfl⟩)) ?_
  refine lw_arg (k := 1) 181 hC hk dL_law_175 dL_law_176 dL_law_178 dL_law_179 dL_law_180 (by decide) rfl rfl (by omega) rfl ?_
  refine lw_arg (k := 2) 187 hC hk dL_law_181 dL_law_182 dL_law_184 dL_law_185 dL_law_186 (by decide) rfl rfl (by omega) rfl ?_
  refine lw_arg (k := 3) 193 hC hk dL_law_187 dL_law_188 dL_law_190 dL_law_191 dL_law_192 (by decide) rfl rfl (by omega) rfl ?_
  refine lw_arg (k := 4) 199 hC hk dL_law_193 dL_law_194 dL_law_196 dL_law_197 dL_law_198 (by decide) rfl rfl (by omega) rfl ?_
  refine lw_arg (k := 5) 205 hC hk dL_law_199 dL_law_200 dL_law_202 dL_law_203 dL_law_204 (by decide) rfl rfl (by omega) rfl ?_
  refine lw_inv (st := [pI v]) [pI (xs (i + 1)), pI (xs (i + 2)), pI (xs (i + 3)), pI (xs (i + 4)), pI (xs (i + 5))] 208 hC hk dL_law_205 vL_26 mX9_feed h2 ⟨Nat.le_of_ble_eq_true rfl, Nat.le_of_ble_eq_true rfl⟩ rfl (Nat.le_of_ble_eq_true rfl) rfl rfl (fun r m2 hr => ?_)
  obtain ⟨rfl, hI⟩ := hr
  exact lw_1 hC hk (pr_icmp_eq 871 211 dL_law_208 rfl rfl (fun _ => PR.done ⟨rfl, rfl, rfl, rfl⟩) (fun hn => absurd rfl hn)) (kont m2 hI)
theorem cs_end (hC : lwC p l s m meth c b L xs ad D cs) (hk : ka ≤ 601024 ∧ sg ≤ 7293034) (hi : i + 6 ≤ L) (h : LI mem) (kont : ∀ mem, LI mem → LW p l e s m below meth c b ad D cs ka sg 871 (lwL i o5 o6) [] mem) : LW p l e s m below meth c b ad D cs ka sg 213 (lwL i o5 o6) [] mem := by
  refine lw_1 hC hk (pr_aload_n 214 dL_law_213 rfl rfl rfl (PR.done ⟨rfl, rfl, rfl, rfl⟩)) ?_
  refine lw_arg (k := 1) 220 hC hk dL_law_214 dL_law_215 dL_law_217 dL_law_218 dL_law_219 (by decide) rfl rfl (by omega) rfl ?_
  refine lw_inv (st := []) [pI (xs (i + 1))] 223 hC hk dL_law_220 vL_27 mX8_end (tw_end h _) ⟨Nat.le_of_ble_eq_true rfl, Nat.le_of_ble_eq_true rfl⟩ rfl (Nat.le_of_ble_eq_true rfl) rfl rfl (fun r m1 hr => ?_)
  obtain ⟨v, rfl, h2⟩ := hr
  refine lw_1 hC hk (pr_aload_n 224 dL_law_223 rfl rfl rfl (PR.done ⟨rfl, rfl, rfl, rfl⟩)) ?_
  refine lw_arg (k := 1) 230 hC hk dL_law_224 dL_law_225 dL_law_227 dL_law_228 dL_law_229 (by decide) rfl rfl (by omega) rfl ?_
  refine lw_inv (st := [pI v]) [pI (xs (i + 1))] 233 hC hk dL_law_230 vL_31 mX9_end h2 ⟨Nat.le_of_ble_eq_true rfl, Nat.le_of_ble_eq_true rfl⟩ rfl (Nat.le_of_ble_eq_true rfl) rfl rfl (fun r m2 hr => ?_)
  obtain ⟨rfl, hI⟩ := hr
  exact lw_1 hC hk (pr_icmp_eq 871 236 dL_law_233 rfl rfl (fun _ => PR.done ⟨rfl, rfl, rfl, rfl⟩) (fun hn => absurd rfl hn)) (kont m2 hI)
theorem cs_text (hC : lwC p l s m meth c b L xs ad D cs) (hk : ka ≤ 601024 ∧ sg ≤ 7293034) (hi : i + 6 ≤ L) (h : LI mem) (kont : ∀ mem, LI mem → LW p l e s m below meth c b ad D cs ka sg 871 (lwL i o5 o6) [] mem) : LW p l e s m below meth c b ad D cs ka sg 238 (lwL i o5 o6) [] mem := by
  refine lw_1 hC hk (pr_aload_n 239 dL_law_238 rfl rfl rfl (PR.done ⟨rfl, rfl, rfl, rfl⟩)) ?_
  refine lw_inv (st := []) [] 242 hC hk dL_law_239 vL_32 mX8_text (tw_text h) ⟨Nat.le_of_ble_eq_true rfl, Nat.le_of_ble_eq_true rfl⟩ rfl (Nat.le_of_ble_eq_true rfl) rfl rfl (fun r m1 hr => ?_)
  obtain ⟨v, rfl, h2⟩ := hr
  refine lw_1 hC hk (pr_aload_n 243 dL_law_242 rfl rfl rfl (PR.done ⟨rfl, rfl, rfl, rfl⟩)) ?_
  refine lw_inv (st := [pI v]) [] 246 hC hk dL_law_243 vL_36 mX9_text h2 ⟨Nat.le_of_ble_eq_true rfl, Nat.le_of_ble_eq_true rfl⟩ rfl (Nat.le_of_ble_eq_true rfl) rfl rfl (fun r m2 hr => ?_)
  obtain ⟨rfl, hI⟩ := hr
  exact lw_1 hC hk (pr_icmp_eq 871 249 dL_law_246 rfl rfl (fun _ => PR.done ⟨rfl, rfl, rfl, rfl⟩) (fun hn => absurd rfl hn)) (kont m2 hI)
theorem cs_fault (hC : lwC p l s m meth c b L xs ad D cs) (hk : ka ≤ 601024 ∧ sg ≤ 7293034) (hi : i + 6 ≤ L) (h : LI mem) (kont : ∀ mem, LI mem → LW p l e s m below meth c b ad D cs ka sg 871 (lwL i o5 o6) [] mem) : LW p l e s m below meth c b ad D cs ka sg 251 (lwL i o5 o6) [] mem := by
  refine lw_1 hC hk (pr_aload_n 252 dL_law_251 rfl rfl rfl (PR.done ⟨rfl, rfl, rfl, rfl⟩)) ?_
  refine lw_inv (st := []) [] 255 hC hk dL_law_252 vL_37 mX8_fault (tw_fault h) ⟨Nat.le_of_ble_eq_true rfl, Nat.le_of_ble_eq_true rfl⟩ rfl (Nat.le_of_ble_eq_true rfl) rfl rfl (fun r m1 hr => ?_)
  obtain ⟨v, rfl, h2⟩ := hr
  refine lw_1 hC hk (pr_aload_n 256 dL_law_255 rfl rfl rfl (PR.done ⟨rfl, rfl, rfl, rfl⟩)) ?_
  refine lw_inv (st := [pI v]) [] 259 hC hk dL_law_256 vL_40 mX9_fault h2 ⟨Nat.le_of_ble_eq_true rfl, Nat.le_of_ble_eq_true rfl⟩ rfl (Nat.le_of_ble_eq_true rfl) rfl rfl (fun r m2 hr => ?_)
  obtain ⟨rfl, hI⟩ := hr
  exact lw_1 hC hk (pr_icmp_eq 871 262 dL_law_259 rfl rfl (fun _ => PR.done ⟨rfl, rfl, rfl, rfl⟩) (fun hn => absurd rfl hn)) (kont m2 hI)
theorem cs_now (hC : lwC p l s m meth c b L xs ad D cs) (hk : ka ≤ 601024 ∧ sg ≤ 7293034) (hi : i + 6 ≤ L) (h : LI mem) (kont : ∀ mem, LI mem → LW p l e s m below meth c b ad D cs ka sg 871 (lwL i o5 o6) [] mem) : LW p l e s m below meth c b ad D cs ka sg 264 (lwL i o5 o6) [] mem := by
  refine lw_1 hC hk (pr_aload_n 265 dL_law_264 rfl rfl rfl (PR.done ⟨rfl, rfl, rfl, rfl⟩)) ?_
  refine lw_arg (k := 1) 271 hC hk dL_law_265 dL_law_266 dL_law_268 dL_law_269 dL_law_270 (by decide) rfl rfl (by omega) rfl ?_
  refine lw_inv (st := []) [pI (xs (i + 1))] 274 hC hk dL_law_271 vL_41 mX8_now (tw_now h _) ⟨Nat.le_of_ble_eq_true rfl, Nat.le_of_ble_eq_true rfl⟩ rfl (Nat.le_of_ble_eq_true rfl) rfl rfl (fun r m1 hr => ?_)
  obtain ⟨v, rfl, h2⟩ := hr
  refine lw_1 hC hk (pr_aload_n 275 dL_law_274 rfl rfl rfl (PR.done ⟨rfl, rfl, rfl, rfl⟩)) ?_
  refine lw_arg (k := 1) 281 hC hk dL_law_275 dL_law_276 dL_law_278 dL_law_279 dL_law_280 (by decide) rfl rfl (by omega) rfl ?_
  refine lw_inv (st := [pI v]) [pI (xs (i + 1))] 284 hC hk dL_law_281 vL_45 mX9_now h2 ⟨Nat.le_of_ble_eq_true rfl, Nat.le_of_ble_eq_true rfl⟩ rfl (Nat.le_of_ble_eq_true rfl) rfl rfl (fun r m2 hr => ?_)
  obtain ⟨rfl, hI⟩ := hr
  exact lw_1 hC hk (pr_icmp_eq 871 287 dL_law_284 rfl rfl (fun _ => PR.done ⟨rfl, rfl, rfl, rfl⟩) (fun hn => absurd rfl hn)) (kont m2 hI)
theorem cs_direct (hC : lwC p l s m meth c b L xs ad D cs) (hk : ka ≤ 601024 ∧ sg ≤ 7293034) (hi : i + 6 ≤ L) (h : LI mem) (kont : ∀ mem, LI mem → LW p l e s m below meth c b ad D cs ka sg 871 (lwL i o5 o6) [] mem) : LW p l e s m below meth c b ad D cs ka sg 289 (lwL i o5 o6) [] mem := by
  refine lw_1 hC hk (pr_aload_n 290 dL_law_289 rfl rfl rfl (PR.done ⟨rfl, rfl, rfl, rfl⟩)) ?_
  refine lw_arg (k := 1) 296 hC hk dL_law_290 dL_law_291 dL_law_293 dL_law_294 dL_law_295 (by decide) rfl rfl (by omega) rfl ?_
  refine lw_arg (k := 2) 302 hC hk dL_law_296 dL_law_297 dL_law_299 dL_law_300 dL_law_301 (by decide) rfl rfl (by omega) rfl ?_
  refine lw_inv (st := []) [pI (xs (i + 1)), pI (xs (i + 2))] 305 hC hk dL_law_302 vL_46 mX8_direct (tw_direct h _ _) ⟨Nat.le_of_ble_eq_true rfl, Nat.le_of_ble_eq_true rfl⟩ rfl (Nat.le_of_ble_eq_true rfl) rfl rfl (fun r m1 hr => ?_)
  obtain ⟨v, rfl, h2⟩ := hr
  refine lw_1 hC hk (pr_aload_n 306 dL_law_305 rfl rfl rfl (PR.done ⟨rfl, rfl, rfl, rfl⟩)) ?_
  refine lw_arg (k := 1) 312 hC hk dL_law_306 dL_law_307 dL_law_309 dL_law_310 dL_law_311 (by decide) rfl rfl (by omega) rfl ?_
  refine lw_arg (k := 2) 318 hC hk dL_law_312 dL_law_313 dL_law_315 dL_law_316 dL_law_317 (by decide) rfl rfl (by omega) rfl ?_
  refine lw_inv (st := [pI v]) [pI (xs (i + 1)), pI (xs (i + 2))] 321 hC hk dL_law_318 vL_49 mX9_direct h2 ⟨Nat.le_of_ble_eq_true rfl, Nat.le_of_ble_eq_true rfl⟩ rfl (Nat.le_of_ble_eq_true rfl) rfl rfl (fun r m2 hr => ?_)
  obtain ⟨rfl, hI⟩ := hr
  exact lw_1 hC hk (pr_icmp_eq 871 324 dL_law_321 rfl rfl (fun _ => PR.done ⟨rfl, rfl, rfl, rfl⟩) (fun hn => absurd rfl hn)) (kont m2 hI)
theorem cs_truck (hC : lwC p l s m meth c b L xs ad D cs) (hk : ka ≤ 601024 ∧ sg ≤ 7293034) (hi : i + 6 ≤ L) (h : LI mem) (kont : ∀ mem, LI mem → LW p l e s m below meth c b ad D cs ka sg 871 (lwL i o5 o6) [] mem) : LW p l e s m below meth c b ad D cs ka sg 326 (lwL i o5 o6) [] mem := by
  refine lw_1 hC hk (pr_aload_n 327 dL_law_326 rfl rfl rfl (PR.done ⟨rfl, rfl, rfl, rfl⟩)) ?_
  refine lw_arg (k := 1) 333 hC hk dL_law_327 dL_law_328 dL_law_330 dL_law_331 dL_law_332 (by decide) rfl rfl (by omega) rfl ?_
  refine lw_arg (k := 2) 339 hC hk dL_law_333 dL_law_334 dL_law_336 dL_law_337 dL_law_338 (by decide) rfl rfl (by omega) rfl ?_
  refine lw_inv (st := []) [pI (xs (i + 1)), pI (xs (i + 2))] 342 hC hk dL_law_339 vL_50 mX8_truck (tw_truck h _ _) ⟨Nat.le_of_ble_eq_true rfl, Nat.le_of_ble_eq_true rfl⟩ rfl (Nat.le_of_ble_eq_true rfl) rfl rfl (fun r m1 hr => ?_)
  obtain ⟨v, rfl, h2⟩ := hr
  refine lw_1 hC hk (pr_aload_n 343 dL_law_342 rfl rfl rfl (PR.done ⟨rfl, rfl, rfl, rfl⟩)) ?_
  refine lw_arg (k := 1) 349 hC hk dL_law_343 dL_law_344 dL_law_346 dL_law_347 dL_law_348 (by decide) rfl rfl (by omega) rfl ?_
  refine lw_arg (k := 2) 355 hC hk dL_law_349 dL_law_350 dL_law_352 dL_law_353 dL_law_354 (by decide) rfl rfl (by omega) rfl ?_
  refine lw_inv (st := [pI v]) [pI (xs (i + 1)), pI (xs (i + 2))] 358 hC hk dL_law_355 vL_53 mX9_truck h2 ⟨Nat.le_of_ble_eq_true rfl, Nat.le_of_ble_eq_true rfl⟩ rfl (Nat.le_of_ble_eq_true rfl) rfl rfl (fun r m2 hr => ?_)
  obtain ⟨rfl, hI⟩ := hr
  exact lw_1 hC hk (pr_icmp_eq 871 361 dL_law_358 rfl rfl (fun _ => PR.done ⟨rfl, rfl, rfl, rfl⟩) (fun hn => absurd rfl hn)) (kont m2 hI)
theorem cs_share (hC : lwC p l s m meth c b L xs ad D cs) (hk : ka ≤ 601024 ∧ sg ≤ 7293034) (hi : i + 6 ≤ L) (h : LI mem) (kont : ∀ mem, LI mem → LW p l e s m below meth c b ad D cs ka sg 871 (lwL i o5 o6) [] mem) : LW p l e s m below meth c b ad D cs ka sg 499 (lwL i o5 o6) [] mem := by
  refine lw_1 hC hk (pr_aload_n 500 dL_law_499 rfl rfl rfl (PR.done ⟨rfl, rfl, rfl, rfl⟩)) ?_
  refine lw_arg (k := 1) 506 hC hk dL_law_500 dL_law_501 dL_law_503 dL_law_504 dL_law_505 (by decide) rfl rfl (by omega) rfl ?_
  refine lw_arg (k := 2) 512 hC hk dL_law_506 dL_law_507 dL_law_509 dL_law_510 dL_law_511 (by decide) rfl rfl (by omega) rfl ?_
  refine lw_inv (st := []) [pI (xs (i + 1)), pI (xs (i + 2))] 515 hC hk dL_law_512 vL_66 mX8_share (tw_share h _ _) ⟨Nat.le_of_ble_eq_true rfl, Nat.le_of_ble_eq_true rfl⟩ rfl (Nat.le_of_ble_eq_true rfl) rfl rfl (fun r m1 hr => ?_)
  obtain ⟨v, rfl, h2⟩ := hr
  refine lw_1 hC hk (pr_aload_n 516 dL_law_515 rfl rfl rfl (PR.done ⟨rfl, rfl, rfl, rfl⟩)) ?_
  refine lw_arg (k := 1) 522 hC hk dL_law_516 dL_law_517 dL_law_519 dL_law_520 dL_law_521 (by decide) rfl rfl (by omega) rfl ?_
  refine lw_arg (k := 2) 528 hC hk dL_law_522 dL_law_523 dL_law_525 dL_law_526 dL_law_527 (by decide) rfl rfl (by omega) rfl ?_
  refine lw_inv (st := [pI v]) [pI (xs (i + 1)), pI (xs (i + 2))] 531 hC hk dL_law_528 vL_69 mX9_share h2 ⟨Nat.le_of_ble_eq_true rfl, Nat.le_of_ble_eq_true rfl⟩ rfl (Nat.le_of_ble_eq_true rfl) rfl rfl (fun r m2 hr => ?_)
  obtain ⟨rfl, hI⟩ := hr
  exact lw_1 hC hk (pr_icmp_eq 871 534 dL_law_531 rfl rfl (fun _ => PR.done ⟨rfl, rfl, rfl, rfl⟩) (fun hn => absurd rfl hn)) (kont m2 hI)
theorem cs_gap (hC : lwC p l s m meth c b L xs ad D cs) (hk : ka ≤ 601024 ∧ sg ≤ 7293034) (hi : i + 6 ≤ L) (h : LI mem) (kont : ∀ mem, LI mem → LW p l e s m below meth c b ad D cs ka sg 871 (lwL i o5 o6) [] mem) : LW p l e s m below meth c b ad D cs ka sg 536 (lwL i o5 o6) [] mem := by
  refine lw_1 hC hk (pr_aload_n 537 dL_law_536 rfl rfl rfl (PR.done ⟨rfl, rfl, rfl, rfl⟩)) ?_
  refine lw_arg (k := 1) 543 hC hk dL_law_537 dL_law_538 dL_law_540 dL_law_541 dL_law_542 (by decide) rfl rfl (by omega) rfl ?_
  refine lw_arg (k := 2) 549 hC hk dL_law_543 dL_law_544 dL_law_546 dL_law_547 dL_law_548 (by decide) rfl rfl (by omega) rfl ?_
  refine lw_inv (st := []) [pI (xs (i + 1)), pI (xs (i + 2))] 552 hC hk dL_law_549 vL_70 mX8_gap (tw_gap h _ _) ⟨Nat.le_of_ble_eq_true rfl, Nat.le_of_ble_eq_true rfl⟩ rfl (Nat.le_of_ble_eq_true rfl) rfl rfl (fun r m1 hr => ?_)
  obtain ⟨v, rfl, h2⟩ := hr
  refine lw_1 hC hk (pr_aload_n 553 dL_law_552 rfl rfl rfl (PR.done ⟨rfl, rfl, rfl, rfl⟩)) ?_
  refine lw_arg (k := 1) 559 hC hk dL_law_553 dL_law_554 dL_law_556 dL_law_557 dL_law_558 (by decide) rfl rfl (by omega) rfl ?_
  refine lw_arg (k := 2) 565 hC hk dL_law_559 dL_law_560 dL_law_562 dL_law_563 dL_law_564 (by decide) rfl rfl (by omega) rfl ?_
  refine lw_inv (st := [pI v]) [pI (xs (i + 1)), pI (xs (i + 2))] 568 hC hk dL_law_565 vL_73 mX9_gap h2 ⟨Nat.le_of_ble_eq_true rfl, Nat.le_of_ble_eq_true rfl⟩ rfl (Nat.le_of_ble_eq_true rfl) rfl rfl (fun r m2 hr => ?_)
  obtain ⟨rfl, hI⟩ := hr
  exact lw_1 hC hk (pr_icmp_eq 871 571 dL_law_568 rfl rfl (fun _ => PR.done ⟨rfl, rfl, rfl, rfl⟩) (fun hn => absurd rfl hn)) (kont m2 hI)
theorem cs_way (hC : lwC p l s m meth c b L xs ad D cs) (hk : ka ≤ 601024 ∧ sg ≤ 7293034) (hi : i + 6 ≤ L) (h : LI mem) (kont : ∀ mem, LI mem → LW p l e s m below meth c b ad D cs ka sg 871 (lwL i o5 o6) [] mem) : LW p l e s m below meth c b ad D cs ka sg 573 (lwL i o5 o6) [] mem := by
  refine lw_1 hC hk (pr_aload_n 574 dL_law_573 rfl rfl rfl (PR.done ⟨rfl, rfl, rfl, rfl⟩)) ?_
  refine lw_arg (k := 1) 580 hC hk dL_law_574 dL_law_575 dL_law_577 dL_law_578 dL_law_579 (by decide) rfl rfl (by omega) rfl ?_
  refine lw_arg (k := 2) 586 hC hk dL_law_580 dL_law_581 dL_law_583 dL_law_584 dL_law_585 (by decide) rfl rfl (by omega) rfl ?_
  refine lw_inv (st := []) [pI (xs (i + 1)), pI (xs (i + 2))] 589 hC hk dL_law_586 vL_74 mX8_way (tw_way h _ _) ⟨Nat.le_of_ble_eq_true rfl, Nat.le_of_ble_eq_true rfl⟩ rfl (Nat.le_of_ble_eq_true rfl) rfl rfl (fun r m1 hr => ?_)
  obtain ⟨v, rfl, h2⟩ := hr
  refine lw_1 hC hk (pr_aload_n 590 dL_law_589 rfl rfl rfl (PR.done ⟨rfl, rfl, rfl, rfl⟩)) ?_
  refine lw_arg (k := 1) 596 hC hk dL_law_590 dL_law_591 dL_law_593 dL_law_594 dL_law_595 (by decide) rfl rfl (by omega) rfl ?_
  refine lw_arg (k := 2) 602 hC hk dL_law_596 dL_law_597 dL_law_599 dL_law_600 dL_law_601 (by decide) rfl rfl (by omega) rfl ?_
  refine lw_inv (st := [pI v]) [pI (xs (i + 1)), pI (xs (i + 2))] 605 hC hk dL_law_602 vL_77 mX9_way h2 ⟨Nat.le_of_ble_eq_true rfl, Nat.le_of_ble_eq_true rfl⟩ rfl (Nat.le_of_ble_eq_true rfl) rfl rfl (fun r m2 hr => ?_)
  obtain ⟨rfl, hI⟩ := hr
  exact lw_1 hC hk (pr_icmp_eq 871 608 dL_law_605 rfl rfl (fun _ => PR.done ⟨rfl, rfl, rfl, rfl⟩) (fun hn => absurd rfl hn)) (kont m2 hI)
theorem cs_busiest (hC : lwC p l s m meth c b L xs ad D cs) (hk : ka ≤ 601024 ∧ sg ≤ 7293034) (hi : i + 6 ≤ L) (h : LI mem) (kont : ∀ mem, LI mem → LW p l e s m below meth c b ad D cs ka sg 871 (lwL i o5 o6) [] mem) : LW p l e s m below meth c b ad D cs ka sg 610 (lwL i o5 o6) [] mem := by
  refine lw_1 hC hk (pr_aload_n 611 dL_law_610 rfl rfl rfl (PR.done ⟨rfl, rfl, rfl, rfl⟩)) ?_
  refine lw_inv (st := []) [] 614 hC hk dL_law_611 vL_78 mX8_busiest (tw_busiest h) ⟨Nat.le_of_ble_eq_true rfl, Nat.le_of_ble_eq_true rfl⟩ rfl (Nat.le_of_ble_eq_true rfl) rfl rfl (fun r m1 hr => ?_)
  obtain ⟨v, rfl, h2⟩ := hr
  refine lw_1 hC hk (pr_aload_n 615 dL_law_614 rfl rfl rfl (PR.done ⟨rfl, rfl, rfl, rfl⟩)) ?_
  refine lw_inv (st := [pI v]) [] 618 hC hk dL_law_615 vL_81 mX9_busiest h2 ⟨Nat.le_of_ble_eq_true rfl, Nat.le_of_ble_eq_true rfl⟩ rfl (Nat.le_of_ble_eq_true rfl) rfl rfl (fun r m2 hr => ?_)
  obtain ⟨rfl, hI⟩ := hr
  exact lw_1 hC hk (pr_icmp_eq 871 621 dL_law_618 rfl rfl (fun _ => PR.done ⟨rfl, rfl, rfl, rfl⟩) (fun hn => absurd rfl hn)) (kont m2 hI)
theorem cs_hub (hC : lwC p l s m meth c b L xs ad D cs) (hk : ka ≤ 601024 ∧ sg ≤ 7293034) (hi : i + 6 ≤ L) (h : LI mem) (kont : ∀ mem, LI mem → LW p l e s m below meth c b ad D cs ka sg 871 (lwL i o5 o6) [] mem) : LW p l e s m below meth c b ad D cs ka sg 623 (lwL i o5 o6) [] mem := by
  refine lw_1 hC hk (pr_aload_n 624 dL_law_623 rfl rfl rfl (PR.done ⟨rfl, rfl, rfl, rfl⟩)) ?_
  refine lw_arg (k := 1) 630 hC hk dL_law_624 dL_law_625 dL_law_627 dL_law_628 dL_law_629 (by decide) rfl rfl (by omega) rfl ?_
  refine lw_inv (st := []) [pI (xs (i + 1))] 633 hC hk dL_law_630 vL_82 mX8_hub (tw_hub h _) ⟨Nat.le_of_ble_eq_true rfl, Nat.le_of_ble_eq_true rfl⟩ rfl (Nat.le_of_ble_eq_true rfl) rfl rfl (fun r m1 hr => ?_)
  obtain ⟨v, rfl, h2⟩ := hr
  refine lw_1 hC hk (pr_aload_n 634 dL_law_633 rfl rfl rfl (PR.done ⟨rfl, rfl, rfl, rfl⟩)) ?_
  refine lw_arg (k := 1) 640 hC hk dL_law_634 dL_law_635 dL_law_637 dL_law_638 dL_law_639 (by decide) rfl rfl (by omega) rfl ?_
  refine lw_inv (st := [pI v]) [pI (xs (i + 1))] 643 hC hk dL_law_640 vL_85 mX9_hub h2 ⟨Nat.le_of_ble_eq_true rfl, Nat.le_of_ble_eq_true rfl⟩ rfl (Nat.le_of_ble_eq_true rfl) rfl rfl (fun r m2 hr => ?_)
  obtain ⟨rfl, hI⟩ := hr
  exact lw_1 hC hk (pr_icmp_eq 871 646 dL_law_643 rfl rfl (fun _ => PR.done ⟨rfl, rfl, rfl, rfl⟩) (fun hn => absurd rfl hn)) (kont m2 hI)
theorem cs_split (hC : lwC p l s m meth c b L xs ad D cs) (hk : ka ≤ 601024 ∧ sg ≤ 7293034) (hi : i + 6 ≤ L) (h : LI mem) (kont : ∀ mem, LI mem → LW p l e s m below meth c b ad D cs ka sg 871 (lwL i o5 o6) [] mem) : LW p l e s m below meth c b ad D cs ka sg 648 (lwL i o5 o6) [] mem := by
  refine lw_1 hC hk (pr_aload_n 649 dL_law_648 rfl rfl rfl (PR.done ⟨rfl, rfl, rfl, rfl⟩)) ?_
  refine lw_arg (k := 1) 655 hC hk dL_law_649 dL_law_650 dL_law_652 dL_law_653 dL_law_654 (by decide) rfl rfl (by omega) rfl ?_
  refine lw_arg (k := 2) 661 hC hk dL_law_655 dL_law_656 dL_law_658 dL_law_659 dL_law_660 (by decide) rfl rfl (by omega) rfl ?_
  refine lw_arg (k := 3) 667 hC hk dL_law_661 dL_law_662 dL_law_664 dL_law_665 dL_law_666 (by decide) rfl rfl (by omega) rfl ?_
  refine lw_inv (st := []) [pI (xs (i + 1)), pI (xs (i + 2)), pI (xs (i + 3))] 670 hC hk dL_law_667 vL_86 mX8_split (tw_split h _ _ _) ⟨Nat.le_of_ble_eq_true rfl, Nat.le_of_ble_eq_true rfl⟩ rfl (Nat.le_of_ble_eq_true rfl) rfl rfl (fun r m1 hr => ?_)
  obtain ⟨v, rfl, h2⟩ := hr
  refine lw_1 hC hk (pr_aload_n 671 dL_law_670 rfl rfl rfl (PR.done ⟨rfl, rfl, rfl, rfl⟩)) ?_
  refine lw_arg (k := 1) 677 hC hk dL_law_671 dL_law_672 dL_law_674 dL_law_675 dL_law_676 (by decide) rfl rfl (by omega) rfl ?_
  refine lw_arg (k := 2) 683 hC hk dL_law_677 dL_law_678 dL_law_680 dL_law_681 dL_law_682 (by decide) rfl rfl (by omega) rfl ?_
  refine lw_arg (k := 3) 689 hC hk dL_law_683 dL_law_684 dL_law_686 dL_law_687 dL_law_688 (by decide) rfl rfl (by omega) rfl ?_
  refine lw_inv (st := [pI v]) [pI (xs (i + 1)), pI (xs (i + 2)), pI (xs (i + 3))] 692 hC hk dL_law_689 vL_90 mX9_split h2 ⟨Nat.le_of_ble_eq_true rfl, Nat.le_of_ble_eq_true rfl⟩ rfl (Nat.le_of_ble_eq_true rfl) rfl rfl (fun r m2 hr => ?_)
  obtain ⟨rfl, hI⟩ := hr
  exact lw_1 hC hk (pr_icmp_eq 871 695 dL_law_692 rfl rfl (fun _ => PR.done ⟨rfl, rfl, rfl, rfl⟩) (fun hn => absurd rfl hn)) (kont m2 hI)
theorem cs_without (hC : lwC p l s m meth c b L xs ad D cs) (hk : ka ≤ 601024 ∧ sg ≤ 7293034) (hi : i + 6 ≤ L) (h : LI mem) (kont : ∀ mem, LI mem → LW p l e s m below meth c b ad D cs ka sg 871 (lwL i o5 o6) [] mem) : LW p l e s m below meth c b ad D cs ka sg 697 (lwL i o5 o6) [] mem := by
  refine lw_1 hC hk (pr_aload_n 698 dL_law_697 rfl rfl rfl (PR.done ⟨rfl, rfl, rfl, rfl⟩)) ?_
  refine lw_arg (k := 1) 704 hC hk dL_law_698 dL_law_699 dL_law_701 dL_law_702 dL_law_703 (by decide) rfl rfl (by omega) rfl ?_
  refine lw_arg (k := 2) 710 hC hk dL_law_704 dL_law_705 dL_law_707 dL_law_708 dL_law_709 (by decide) rfl rfl (by omega) rfl ?_
  refine lw_inv (st := []) [pI (xs (i + 1)), pI (xs (i + 2))] 713 hC hk dL_law_710 vL_91 mX8_without (tw_without h _ _) ⟨Nat.le_of_ble_eq_true rfl, Nat.le_of_ble_eq_true rfl⟩ rfl (Nat.le_of_ble_eq_true rfl) rfl rfl (fun r m1 hr => ?_)
  obtain ⟨v, rfl, h2⟩ := hr
  refine lw_1 hC hk (pr_aload_n 714 dL_law_713 rfl rfl rfl (PR.done ⟨rfl, rfl, rfl, rfl⟩)) ?_
  refine lw_arg (k := 1) 720 hC hk dL_law_714 dL_law_715 dL_law_717 dL_law_718 dL_law_719 (by decide) rfl rfl (by omega) rfl ?_
  refine lw_arg (k := 2) 726 hC hk dL_law_720 dL_law_721 dL_law_723 dL_law_724 dL_law_725 (by decide) rfl rfl (by omega) rfl ?_
  refine lw_inv (st := [pI v]) [pI (xs (i + 1)), pI (xs (i + 2))] 729 hC hk dL_law_726 vL_94 mX9_without h2 ⟨Nat.le_of_ble_eq_true rfl, Nat.le_of_ble_eq_true rfl⟩ rfl (Nat.le_of_ble_eq_true rfl) rfl rfl (fun r m2 hr => ?_)
  obtain ⟨rfl, hI⟩ := hr
  exact lw_1 hC hk (pr_icmp_eq 871 732 dL_law_729 rfl rfl (fun _ => PR.done ⟨rfl, rfl, rfl, rfl⟩) (fun hn => absurd rfl hn)) (kont m2 hI)
theorem cs_dearest (hC : lwC p l s m meth c b L xs ad D cs) (hk : ka ≤ 601024 ∧ sg ≤ 7293034) (hi : i + 6 ≤ L) (h : LI mem) (kont : ∀ mem, LI mem → LW p l e s m below meth c b ad D cs ka sg 871 (lwL i o5 o6) [] mem) : LW p l e s m below meth c b ad D cs ka sg 734 (lwL i o5 o6) [] mem := by
  refine lw_1 hC hk (pr_aload_n 735 dL_law_734 rfl rfl rfl (PR.done ⟨rfl, rfl, rfl, rfl⟩)) ?_
  refine lw_inv (st := []) [] 738 hC hk dL_law_735 vL_95 mX8_dearest (tw_dearest h) ⟨Nat.le_of_ble_eq_true rfl, Nat.le_of_ble_eq_true rfl⟩ rfl (Nat.le_of_ble_eq_true rfl) rfl rfl (fun r m1 hr => ?_)
  obtain ⟨v, rfl, h2⟩ := hr
  refine lw_1 hC hk (pr_aload_n 739 dL_law_738 rfl rfl rfl (PR.done ⟨rfl, rfl, rfl, rfl⟩)) ?_
  refine lw_inv (st := [pI v]) [] 742 hC hk dL_law_739 vL_98 mX9_dearest h2 ⟨Nat.le_of_ble_eq_true rfl, Nat.le_of_ble_eq_true rfl⟩ rfl (Nat.le_of_ble_eq_true rfl) rfl rfl (fun r m2 hr => ?_)
  obtain ⟨rfl, hI⟩ := hr
  exact lw_1 hC hk (pr_icmp_eq 871 745 dL_law_742 rfl rfl (fun _ => PR.done ⟨rfl, rfl, rfl, rfl⟩) (fun hn => absurd rfl hn)) (kont m2 hI)
theorem cs_fuel (hC : lwC p l s m meth c b L xs ad D cs) (hk : ka ≤ 601024 ∧ sg ≤ 7293034) (hi : i + 6 ≤ L) (h : LI mem) (kont : ∀ mem, LI mem → LW p l e s m below meth c b ad D cs ka sg 871 (lwL i o5 o6) [] mem) : LW p l e s m below meth c b ad D cs ka sg 747 (lwL i o5 o6) [] mem := by
  refine lw_1 hC hk (pr_aload_n 748 dL_law_747 rfl rfl rfl (PR.done ⟨rfl, rfl, rfl, rfl⟩)) ?_
  refine lw_arg (k := 1) 754 hC hk dL_law_748 dL_law_749 dL_law_751 dL_law_752 dL_law_753 (by decide) rfl rfl (by omega) rfl ?_
  refine lw_arg (k := 2) 760 hC hk dL_law_754 dL_law_755 dL_law_757 dL_law_758 dL_law_759 (by decide) rfl rfl (by omega) rfl ?_
  refine lw_inv (st := []) [pI (xs (i + 1)), pI (xs (i + 2))] 763 hC hk dL_law_760 vL_99 mX8_fuel (tw_fuel h _ _) ⟨Nat.le_of_ble_eq_true rfl, Nat.le_of_ble_eq_true rfl⟩ rfl (Nat.le_of_ble_eq_true rfl) rfl rfl (fun r m1 hr => ?_)
  obtain ⟨v, rfl, h2⟩ := hr
  refine lw_1 hC hk (pr_aload_n 764 dL_law_763 rfl rfl rfl (PR.done ⟨rfl, rfl, rfl, rfl⟩)) ?_
  refine lw_arg (k := 1) 770 hC hk dL_law_764 dL_law_765 dL_law_767 dL_law_768 dL_law_769 (by decide) rfl rfl (by omega) rfl ?_
  refine lw_arg (k := 2) 776 hC hk dL_law_770 dL_law_771 dL_law_773 dL_law_774 dL_law_775 (by decide) rfl rfl (by omega) rfl ?_
  refine lw_inv (st := [pI v]) [pI (xs (i + 1)), pI (xs (i + 2))] 779 hC hk dL_law_776 vL_102 mX9_fuel h2 ⟨Nat.le_of_ble_eq_true rfl, Nat.le_of_ble_eq_true rfl⟩ rfl (Nat.le_of_ble_eq_true rfl) rfl rfl (fun r m2 hr => ?_)
  obtain ⟨rfl, hI⟩ := hr
  exact lw_1 hC hk (pr_icmp_eq 871 782 dL_law_779 rfl rfl (fun _ => PR.done ⟨rfl, rfl, rfl, rfl⟩) (fun hn => absurd rfl hn)) (kont m2 hI)
theorem cs_buy (hC : lwC p l s m meth c b L xs ad D cs) (hk : ka ≤ 601024 ∧ sg ≤ 7293034) (hi : i + 6 ≤ L) (h : LI mem) (kont : ∀ mem, LI mem → LW p l e s m below meth c b ad D cs ka sg 871 (lwL i o5 o6) [] mem) : LW p l e s m below meth c b ad D cs ka sg 784 (lwL i o5 o6) [] mem := by
  refine lw_1 hC hk (pr_aload_n 785 dL_law_784 rfl rfl rfl (PR.done ⟨rfl, rfl, rfl, rfl⟩)) ?_
  refine lw_arg (k := 1) 791 hC hk dL_law_785 dL_law_786 dL_law_788 dL_law_789 dL_law_790 (by decide) rfl rfl (by omega) rfl ?_
  refine lw_arg (k := 2) 797 hC hk dL_law_791 dL_law_792 dL_law_794 dL_law_795 dL_law_796 (by decide) rfl rfl (by omega) rfl ?_
  refine lw_inv (st := []) [pI (xs (i + 1)), pI (xs (i + 2))] 800 hC hk dL_law_797 vL_103 mX8_buy (tw_buy h _ _) ⟨Nat.le_of_ble_eq_true rfl, Nat.le_of_ble_eq_true rfl⟩ rfl (Nat.le_of_ble_eq_true rfl) rfl rfl (fun r m1 hr => ?_)
  obtain ⟨v, rfl, h2⟩ := hr
  refine lw_1 hC hk (pr_aload_n 801 dL_law_800 rfl rfl rfl (PR.done ⟨rfl, rfl, rfl, rfl⟩)) ?_
  refine lw_arg (k := 1) 807 hC hk dL_law_801 dL_law_802 dL_law_804 dL_law_805 dL_law_806 (by decide) rfl rfl (by omega) rfl ?_
  refine lw_arg (k := 2) 813 hC hk dL_law_807 dL_law_808 dL_law_810 dL_law_811 dL_law_812 (by decide) rfl rfl (by omega) rfl ?_
  refine lw_inv (st := [pI v]) [pI (xs (i + 1)), pI (xs (i + 2))] 816 hC hk dL_law_813 vL_106 mX9_buy h2 ⟨Nat.le_of_ble_eq_true rfl, Nat.le_of_ble_eq_true rfl⟩ rfl (Nat.le_of_ble_eq_true rfl) rfl rfl (fun r m2 hr => ?_)
  obtain ⟨rfl, hI⟩ := hr
  exact lw_1 hC hk (pr_icmp_eq 871 819 dL_law_816 rfl rfl (fun _ => PR.done ⟨rfl, rfl, rfl, rfl⟩) (fun hn => absurd rfl hn)) (kont m2 hI)
theorem cs_weigh (hC : lwC p l s m meth c b L xs ad D cs) (hk : ka ≤ 601024 ∧ sg ≤ 7293034) (hi : i + 6 ≤ L) (h : LI mem) (kont : ∀ mem, LI mem → LW p l e s m below meth c b ad D cs ka sg 871 (lwL i o5 o6) [] mem) : LW p l e s m below meth c b ad D cs ka sg 821 (lwL i o5 o6) [] mem := by
  refine lw_1 hC hk (pr_aload_n 822 dL_law_821 rfl rfl rfl (PR.done ⟨rfl, rfl, rfl, rfl⟩)) ?_
  refine lw_arg (k := 1) 828 hC hk dL_law_822 dL_law_823 dL_law_825 dL_law_826 dL_law_827 (by decide) rfl rfl (by omega) rfl ?_
  refine lw_arg (k := 2) 834 hC hk dL_law_828 dL_law_829 dL_law_831 dL_law_832 dL_law_833 (by decide) rfl rfl (by omega) rfl ?_
  refine lw_inv (st := []) [pI (xs (i + 1)), pI (xs (i + 2))] 837 hC hk dL_law_834 vL_107 mX8_weigh (tw_weigh h _ _) ⟨Nat.le_of_ble_eq_true rfl, Nat.le_of_ble_eq_true rfl⟩ rfl (Nat.le_of_ble_eq_true rfl) rfl rfl (fun r m1 hr => ?_)
  obtain ⟨v, rfl, h2⟩ := hr
  refine lw_1 hC hk (pr_aload_n 838 dL_law_837 rfl rfl rfl (PR.done ⟨rfl, rfl, rfl, rfl⟩)) ?_
  refine lw_arg (k := 1) 844 hC hk dL_law_838 dL_law_839 dL_law_841 dL_law_842 dL_law_843 (by decide) rfl rfl (by omega) rfl ?_
  refine lw_arg (k := 2) 850 hC hk dL_law_844 dL_law_845 dL_law_847 dL_law_848 dL_law_849 (by decide) rfl rfl (by omega) rfl ?_
  refine lw_inv (st := [pI v]) [pI (xs (i + 1)), pI (xs (i + 2))] 853 hC hk dL_law_850 vL_110 mX9_weigh h2 ⟨Nat.le_of_ble_eq_true rfl, Nat.le_of_ble_eq_true rfl⟩ rfl (Nat.le_of_ble_eq_true rfl) rfl rfl (fun r m2 hr => ?_)
  obtain ⟨rfl, hI⟩ := hr
  exact lw_1 hC hk (pr_icmp_eq 871 856 dL_law_853 rfl rfl (fun _ => PR.done ⟨rfl, rfl, rfl, rfl⟩) (fun hn => absurd rfl hn)) (kont m2 hI)
theorem cs_undo (hC : lwC p l s m meth c b L xs ad D cs) (hk : ka ≤ 601024 ∧ sg ≤ 7293034) (hi : i + 6 ≤ L) (h : LI mem) (kont : ∀ mem, LI mem → LW p l e s m below meth c b ad D cs ka sg 871 (lwL i o5 o6) [] mem) : LW p l e s m below meth c b ad D cs ka sg 858 (lwL i o5 o6) [] mem := by
  refine lw_1 hC hk (pr_aload_n 859 dL_law_858 rfl rfl rfl (PR.done ⟨rfl, rfl, rfl, rfl⟩)) ?_
  refine lw_inv (st := []) [] 862 hC hk dL_law_859 vL_111 mX8_undo (tw_undo h) ⟨Nat.le_of_ble_eq_true rfl, Nat.le_of_ble_eq_true rfl⟩ rfl (Nat.le_of_ble_eq_true rfl) rfl rfl (fun r m1 hr => ?_)
  obtain ⟨v, rfl, h2⟩ := hr
  refine lw_1 hC hk (pr_aload_n 863 dL_law_862 rfl rfl rfl (PR.done ⟨rfl, rfl, rfl, rfl⟩)) ?_
  refine lw_inv (st := [pI v]) [] 866 hC hk dL_law_863 vL_114 mX9_undo h2 ⟨Nat.le_of_ble_eq_true rfl, Nat.le_of_ble_eq_true rfl⟩ rfl (Nat.le_of_ble_eq_true rfl) rfl rfl (fun r m2 hr => ?_)
  obtain ⟨rfl, hI⟩ := hr
  exact lw_1 hC hk (pr_icmp_eq 871 869 dL_law_866 rfl rfl (fun _ => PR.done ⟨rfl, rfl, rfl, rfl⟩) (fun hn => absurd rfl hn)) (kont m2 hI)
set_option maxRecDepth 100000 in
theorem cs_load (hC : lwC p l s m meth c b L xs ad D cs) (hk0 : ka + 1 ≤ 601024 ∧ sg + 6 ≤ 7293034) (hi : i + 6 ≤ L) (h : LI mem) (kont : ∀ mem o5 o6, LI mem → LW p l e s m below meth c b ad D cs (ka + 1) (sg + 6) 871 (lwL i o5 o6) [] mem) : LW p l e s m below meth c b ad D cs ka sg 363 (lwL i o5 o6) [] mem := by
  obtain ⟨d, d', K, n, S, T, B, f, hLC, hLM, hne, hT, hB⟩ := h
  have hW := hLC.1.wf.1
  have hk : ka ≤ 601024 ∧ sg ≤ 7293034 := ⟨by omega, by omega⟩
  refine lw_1 hC hk (pr_aload_n 364 dL_law_363 rfl rfl rfl (PR.done ⟨rfl, rfl, rfl, rfl⟩)) ?_
  refine lw_arg (k := 1) 370 hC hk dL_law_364 dL_law_365 dL_law_367 dL_law_368 dL_law_369 (by decide) rfl rfl (by omega) rfl ?_
  refine lw_arg (k := 2) 376 hC hk dL_law_370 dL_law_371 dL_law_373 dL_law_374 dL_law_375 (by decide) rfl rfl (by omega) rfl ?_
  refine lw_1 hC hk (pr_aload_n 377 dL_law_376 rfl rfl rfl (PR.done ⟨rfl, rfl, rfl, rfl⟩)) ?_
  refine lw_cy (st := []) [pR 10008908 0, pI (xs (i + 1)), pI (xs (i + 2)), pR 40001990 0] 380 hC hk0 dL_law_377 csL_load mwL_load (sp_L_load (sp_X8_load hLC.1.1 hW _ _)) ⟨Nat.le_of_ble_eq_true rfl, Nat.le_of_ble_eq_true rfl⟩ rfl (Nat.le_of_ble_eq_true rfl) rfl rfl (fun r m1 hr => ?_)
  obtain ⟨kr, hkr, hm1, hC1, hM1⟩ : ∃ kr : Int32, r = some (pI kr) ∧ (kr = (if (q_load K (xs (i + 1)) (xs (i + 2))).isSome = true then 0 else 1) ∧ ∀ v, q_load K (xs (i + 1)) (xs (i + 2)) = some v → m1.2.1 40001990 0 0 = v.toInt64) ∧ LC m1 d d' K n S T B f ∧ LM m1 K n S T B f := by
    rcases ho : q_load K (xs (i + 1)) (xs (i + 2)) with _ | v
    · rw [ho] at hr
      obtain ⟨rfl, rfl⟩ := hr
      exact ⟨1, rfl, ⟨rfl, fun v h => by cases h⟩, hLC, hLM⟩
    · rw [ho] at hr
      obtain ⟨rfl, rfl⟩ := hr
      refine ⟨0, rfl, ⟨rfl, fun v' h => ?_⟩, hLC.out, hLM.out⟩
      cases h
      exact pm_gJe
  subst hkr
  have hk := hk0
  refine lw_1 hC hk (pr_istore 382 dL_law_380 (pm_st_5 rfl rfl) rfl (PR.done ⟨rfl, rfl, rfl, rfl⟩)) ?_
  refine lw_1 hC hk (pr_aload_n 383 dL_law_382 rfl rfl rfl (PR.done ⟨rfl, rfl, rfl, rfl⟩)) ?_
  refine lw_arg (k := 1) 389 hC hk dL_law_383 dL_law_384 dL_law_386 dL_law_387 dL_law_388 (by decide) rfl rfl (by omega) rfl ?_
  refine lw_arg (k := 2) 395 hC hk dL_law_389 dL_law_390 dL_law_392 dL_law_393 dL_law_394 (by decide) rfl rfl (by omega) rfl ?_
  refine lw_inv (st := []) [pI (xs (i + 1)), pI (xs (i + 2))] 398 hC hk dL_law_395 vL_59 mX9_load (sp_X9_load hM1.1.1 hW _ _) ⟨Nat.le_of_ble_eq_true rfl, Nat.le_of_ble_eq_true rfl⟩ rfl (Nat.le_of_ble_eq_true rfl) rfl rfl (fun r m2 hr => ?_)
  obtain ⟨rfl, hf2, hd2, hth⟩ := hr
  have hI2 := LI.mq hC1 hM1 hne hT hB hf2 hd2
  have hout := (hf2 40001990 0 (by simp [sMQ])).2.1
  refine lw_1 hC hk (pr_istore 400 dL_law_398 (pm_st_6 rfl rfl) rfl (PR.done ⟨rfl, rfl, rfl, rfl⟩)) ?_
  refine lw_1 hC hk (pr_aload_n 401 dL_law_400 rfl rfl rfl (PR.done ⟨rfl, rfl, rfl, rfl⟩)) ?_
  refine lw_inv (st := []) [] 404 hC hk dL_law_401 vL_60 mX9_thrown sp_X9_thrown ⟨Nat.le_of_ble_eq_true rfl, Nat.le_of_ble_eq_true rfl⟩ rfl (Nat.le_of_ble_eq_true rfl) rfl rfl (fun r m3 hr => ?_)
  obtain ⟨rfl, rfl⟩ := hr
  rw [hth]
  refine lw_1 hC hk (pr_iload 406 dL_law_404 rfl rfl (pr_icmp_eq 411 409 dL_law_406 rfl rfl (fun _ => PR.done ⟨rfl, rfl, rfl, rfl⟩) (fun hn => absurd hm1.1.symm hn))) ?_
  rcases ho : q_load K (xs (i + 1)) (xs (i + 2)) with _ | v
  · have e5 : kr = 1 := by rw [hm1.1, ho]; rfl
    exact lw_1 hC hk (pr_iload 413 dL_law_411 rfl rfl (pr_if_ne 428 416 dL_law_413 rfl rfl (fun _ => pr_goto 871 dL_law_428 rfl (PR.done ⟨rfl, rfl, rfl, rfl⟩)) (fun hz => absurd (e5.symm.trans hz) (by decide)))) (kont m3 _ _ hI2)
  · have e5 : kr = 0 := by rw [hm1.1, ho]; rfl
    have e6 : m3.2.1 40001990 0 0 = v.toInt64 := by rw [hout]; exact hm1.2 v ho
    refine lw_1 hC hk (pr_iload 413 dL_law_411 rfl rfl (pr_if_ne 428 416 dL_law_413 rfl rfl (fun hz => absurd e5 hz) (fun _ => pr_aload_n 417 dL_law_416 rfl rfl rfl (pr_iconst 0 418 dL_law_417 (by decide) rfl (pr_laload 0 419 dL_law_418 rfl rfl rfl (by decide) rfl (pr_iload 421 dL_law_419 rfl rfl (pr_i2l 422 dL_law_421 rfl (pr_lcmp 423 dL_law_422 rfl (pr_if_eq 428 426 dL_law_423 rfl rfl (fun _ => pr_goto 871 dL_law_428 rfl (PR.done ⟨rfl, rfl, rfl, rfl⟩)) (fun hn => absurd ?_ hn)))))))))) (kont m3 _ _ hI2)
    rw [e6, lg_cmp_eq]
    try rfl
set_option maxRecDepth 100000 in
theorem cs_trip (hC : lwC p l s m meth c b L xs ad D cs) (hk0 : ka + 1 ≤ 601024 ∧ sg + 6 ≤ 7293034) (hi : i + 6 ≤ L) (h : LI mem) (kont : ∀ mem o5 o6, LI mem → LW p l e s m below meth c b ad D cs (ka + 1) (sg + 6) 871 (lwL i o5 o6) [] mem) : LW p l e s m below meth c b ad D cs ka sg 431 (lwL i o5 o6) [] mem := by
  obtain ⟨d, d', K, n, S, T, B, f, hLC, hLM, hne, hT, hB⟩ := h
  have hW := hLC.1.wf.1
  have hk : ka ≤ 601024 ∧ sg ≤ 7293034 := ⟨by omega, by omega⟩
  refine lw_1 hC hk (pr_aload_n 432 dL_law_431 rfl rfl rfl (PR.done ⟨rfl, rfl, rfl, rfl⟩)) ?_
  refine lw_arg (k := 1) 438 hC hk dL_law_432 dL_law_433 dL_law_435 dL_law_436 dL_law_437 (by decide) rfl rfl (by omega) rfl ?_
  refine lw_arg (k := 2) 444 hC hk dL_law_438 dL_law_439 dL_law_441 dL_law_442 dL_law_443 (by decide) rfl rfl (by omega) rfl ?_
  refine lw_1 hC hk (pr_aload_n 445 dL_law_444 rfl rfl rfl (PR.done ⟨rfl, rfl, rfl, rfl⟩)) ?_
  refine lw_cy (st := []) [pR 10008908 0, pI (xs (i + 1)), pI (xs (i + 2)), pR 40001990 0] 448 hC hk0 dL_law_445 csL_trip mwL_trip (sp_L_trip (sp_X8_trip hLC.1.1 hW _ _)) ⟨Nat.le_of_ble_eq_true rfl, Nat.le_of_ble_eq_true rfl⟩ rfl (Nat.le_of_ble_eq_true rfl) rfl rfl (fun r m1 hr => ?_)
  obtain ⟨kr, hkr, hm1, hC1, hM1⟩ : ∃ kr : Int32, r = some (pI kr) ∧ (kr = (if (q_trip K (xs (i + 1)) (xs (i + 2))).isSome = true then 0 else 1) ∧ ∀ v, q_trip K (xs (i + 1)) (xs (i + 2)) = some v → m1.2.1 40001990 0 0 = v.toInt64) ∧ LC m1 d d' K n S T B f ∧ LM m1 K n S T B f := by
    rcases ho : q_trip K (xs (i + 1)) (xs (i + 2)) with _ | v
    · rw [ho] at hr
      obtain ⟨rfl, rfl⟩ := hr
      exact ⟨1, rfl, ⟨rfl, fun v h => by cases h⟩, hLC, hLM⟩
    · rw [ho] at hr
      obtain ⟨rfl, rfl⟩ := hr
      refine ⟨0, rfl, ⟨rfl, fun v' h => ?_⟩, hLC.out, hLM.out⟩
      cases h
      exact pm_gJe
  subst hkr
  have hk := hk0
  refine lw_1 hC hk (pr_istore 450 dL_law_448 (pm_st_5 rfl rfl) rfl (PR.done ⟨rfl, rfl, rfl, rfl⟩)) ?_
  refine lw_1 hC hk (pr_aload_n 451 dL_law_450 rfl rfl rfl (PR.done ⟨rfl, rfl, rfl, rfl⟩)) ?_
  refine lw_arg (k := 1) 457 hC hk dL_law_451 dL_law_452 dL_law_454 dL_law_455 dL_law_456 (by decide) rfl rfl (by omega) rfl ?_
  refine lw_arg (k := 2) 463 hC hk dL_law_457 dL_law_458 dL_law_460 dL_law_461 dL_law_462 (by decide) rfl rfl (by omega) rfl ?_
  refine lw_inv (st := []) [pI (xs (i + 1)), pI (xs (i + 2))] 466 hC hk dL_law_463 vL_65 mX9_trip (sp_X9_trip hM1.1.1 hW _ _) ⟨Nat.le_of_ble_eq_true rfl, Nat.le_of_ble_eq_true rfl⟩ rfl (Nat.le_of_ble_eq_true rfl) rfl rfl (fun r m2 hr => ?_)
  obtain ⟨rfl, hf2, hd2, hth⟩ := hr
  have hI2 := LI.mq hC1 hM1 hne hT hB hf2 hd2
  have hout := (hf2 40001990 0 (by simp [sMQ])).2.1
  refine lw_1 hC hk (pr_istore 468 dL_law_466 (pm_st_6 rfl rfl) rfl (PR.done ⟨rfl, rfl, rfl, rfl⟩)) ?_
  refine lw_1 hC hk (pr_aload_n 469 dL_law_468 rfl rfl rfl (PR.done ⟨rfl, rfl, rfl, rfl⟩)) ?_
  refine lw_inv (st := []) [] 472 hC hk dL_law_469 vL_60 mX9_thrown sp_X9_thrown ⟨Nat.le_of_ble_eq_true rfl, Nat.le_of_ble_eq_true rfl⟩ rfl (Nat.le_of_ble_eq_true rfl) rfl rfl (fun r m3 hr => ?_)
  obtain ⟨rfl, rfl⟩ := hr
  rw [hth]
  refine lw_1 hC hk (pr_iload 474 dL_law_472 rfl rfl (pr_icmp_eq 479 477 dL_law_474 rfl rfl (fun _ => PR.done ⟨rfl, rfl, rfl, rfl⟩) (fun hn => absurd hm1.1.symm hn))) ?_
  rcases ho : q_trip K (xs (i + 1)) (xs (i + 2)) with _ | v
  · have e5 : kr = 1 := by rw [hm1.1, ho]; rfl
    exact lw_1 hC hk (pr_iload 481 dL_law_479 rfl rfl (pr_if_ne 496 484 dL_law_481 rfl rfl (fun _ => pr_goto 871 dL_law_496 rfl (PR.done ⟨rfl, rfl, rfl, rfl⟩)) (fun hz => absurd (e5.symm.trans hz) (by decide)))) (kont m3 _ _ hI2)
  · have e5 : kr = 0 := by rw [hm1.1, ho]; rfl
    have e6 : m3.2.1 40001990 0 0 = v.toInt64 := by rw [hout]; exact hm1.2 v ho
    refine lw_1 hC hk (pr_iload 481 dL_law_479 rfl rfl (pr_if_ne 496 484 dL_law_481 rfl rfl (fun hz => absurd e5 hz) (fun _ => pr_aload_n 485 dL_law_484 rfl rfl rfl (pr_iconst 0 486 dL_law_485 (by decide) rfl (pr_laload 0 487 dL_law_486 rfl rfl rfl (by decide) rfl (pr_iload 489 dL_law_487 rfl rfl (pr_i2l 490 dL_law_489 rfl (pr_lcmp 491 dL_law_490 rfl (pr_if_eq 496 494 dL_law_491 rfl rfl (fun _ => pr_goto 871 dL_law_496 rfl (PR.done ⟨rfl, rfl, rfl, rfl⟩)) (fun hn => absurd ?_ hn)))))))))) (kont m3 _ _ hI2)
    rw [e6, lg_cmp_eq]
    try rfl
set_option maxRecDepth 100000 in
theorem lw_body (hC : lwC p l s m meth c b L xs ad D cs) (hka : ka ≤ 1000 + i) (hsg : sg ≤ 20000 + 6 * i) (hi0 : i ≤ 3072) (h : LI mem) (ih : ∀ ka sg o5 o6 mem, i + 6 ≤ L → ka ≤ 1000 + (i + 6) → sg ≤ 20000 + 6 * (i + 6) → LI mem → LW p l e s m below meth c b ad D cs ka sg 23 (lwL (i + 6) o5 o6) [] mem) : LW p l e s m below meth c b ad D cs ka sg 23 (lwL i o5 o6) [] mem := by
  have h3 : L ≤ 3072 := hC.2.2.2.2.2.2.2.2.2.2
  have hk : ka ≤ 601024 ∧ sg ≤ 7293034 := ⟨by omega, by omega⟩
  refine lw_1 hC hk (pr_iload 25 dL_law_23 rfl rfl (pr_aload_n 26 dL_law_25 rfl rfl rfl (PR.done ⟨rfl, rfl, rfl, rfl⟩))) ?_
  refine lw_len hC dL_law_26 rfl ?_
  by_cases hi : i + 6 ≤ L
  · have hnot : ¬ nI L - 6 < nI i := fun z => by have := (lw_cmp h3 hi0).mp z; omega
    have next : ∀ ka sg o5 o6 mem, ka ≤ 1000 + (i + 6) → sg ≤ 20000 + 6 * (i + 6) → LI mem → LW p l e s m below meth c b ad D cs ka sg 871 (lwL i o5 o6) [] mem := fun ka sg o5 o6 mem h1 h2 hI =>
      lw_1 hC ⟨by omega, by omega⟩ (pr_iinc 874 dL_law_871 rfl (nI_add i 6) (pm_st_4 rfl rfl) rfl (pr_goto 23 dL_law_874 rfl (PR.done ⟨rfl, rfl, rfl, rfl⟩))) (ih ka sg o5 o6 mem hi h1 h2 hI)
    have kont : ∀ mem, LI mem → LW p l e s m below meth c b ad D cs ka sg 871 (lwL i o5 o6) [] mem := fun mem hI => next ka sg o5 o6 mem (by omega) (by omega) hI
    have kont2 : ∀ mem o5 o6, LI mem → LW p l e s m below meth c b ad D cs (ka + 1) (sg + 6) 871 (lwL i o5 o6) [] mem := fun mem o5 o6 hI => next (ka + 1) (sg + 6) o5 o6 mem (by omega) (by omega) hI
    refine lw_1 hC hk (pr_bipush 6 29 dL_law_27 (by decide) rfl (pr_isub 30 dL_law_29 rfl (pr_icmp_gt 877 33 dL_law_30 rfl rfl (fun z => absurd z hnot) (fun _ => pr_aload_n 34 dL_law_33 rfl rfl rfl (pr_iload 36 dL_law_34 rfl rfl (PR.done ⟨rfl, rfl, rfl, rfl⟩)))))) ?_
    refine lw_ald hC (by omega) dL_law_36 rfl ?_
    refine lw_1 hC hk (pr_bipush 31 39 dL_law_37 (by decide) rfl (pr_iand 40 dL_law_39 rfl (PR.done ⟨rfl, rfl, rfl, rfl⟩))) ?_
    generalize xs i &&& 31 = x
    rcases sw_c x 20 (by omega) with h_sw | ⟨c_sw, h_sw, rfl⟩
    · exact lw_1 hC hk (pr_table 871 dL_law_40 (Or.inl ⟨h_sw, rfl⟩) (PR.done ⟨rfl, rfl, rfl, rfl⟩)) (kont mem h)
    · rcases (by omega : c_sw = 0 ∨ c_sw = 1 ∨ c_sw = 2 ∨ c_sw = 3 ∨ c_sw = 4 ∨ c_sw = 5 ∨ c_sw = 6 ∨ c_sw = 7 ∨ c_sw = 8 ∨ c_sw = 9 ∨ c_sw = 10 ∨ c_sw = 11 ∨ c_sw = 12 ∨ c_sw = 13 ∨ c_sw = 14 ∨ c_sw = 15 ∨ c_sw = 16 ∨ c_sw = 17 ∨ c_sw = 18 ∨ c_sw = 19 ∨ c_sw = 20) with rfl | rfl | rfl | rfl | rfl | rfl | rfl | rfl | rfl | rfl | rfl | rfl | rfl | rfl | rfl | rfl | rfl | rfl | rfl | rfl | rfl
      · exact lw_1 hC hk (pr_table 140 dL_law_40 (Or.inr ⟨by decide, by decide, 100, rfl, rfl⟩) (PR.done ⟨rfl, rfl, rfl, rfl⟩)) (cs_feed hC hk hi h kont)
      · exact lw_1 hC hk (pr_table 213 dL_law_40 (Or.inr ⟨by decide, by decide, 173, rfl, rfl⟩) (PR.done ⟨rfl, rfl, rfl, rfl⟩)) (cs_end hC hk hi h kont)
      · exact lw_1 hC hk (pr_table 238 dL_law_40 (Or.inr ⟨by decide, by decide, 198, rfl, rfl⟩) (PR.done ⟨rfl, rfl, rfl, rfl⟩)) (cs_text hC hk hi h kont)
      · exact lw_1 hC hk (pr_table 251 dL_law_40 (Or.inr ⟨by decide, by decide, 211, rfl, rfl⟩) (PR.done ⟨rfl, rfl, rfl, rfl⟩)) (cs_fault hC hk hi h kont)
      · exact lw_1 hC hk (pr_table 264 dL_law_40 (Or.inr ⟨by decide, by decide, 224, rfl, rfl⟩) (PR.done ⟨rfl, rfl, rfl, rfl⟩)) (cs_now hC hk hi h kont)
      · exact lw_1 hC hk (pr_table 289 dL_law_40 (Or.inr ⟨by decide, by decide, 249, rfl, rfl⟩) (PR.done ⟨rfl, rfl, rfl, rfl⟩)) (cs_direct hC hk hi h kont)
      · exact lw_1 hC hk (pr_table 326 dL_law_40 (Or.inr ⟨by decide, by decide, 286, rfl, rfl⟩) (PR.done ⟨rfl, rfl, rfl, rfl⟩)) (cs_truck hC hk hi h kont)
      · exact lw_1 hC hk (pr_table 363 dL_law_40 (Or.inr ⟨by decide, by decide, 323, rfl, rfl⟩) (PR.done ⟨rfl, rfl, rfl, rfl⟩)) (cs_load hC ⟨by omega, by omega⟩ hi h kont2)
      · exact lw_1 hC hk (pr_table 431 dL_law_40 (Or.inr ⟨by decide, by decide, 391, rfl, rfl⟩) (PR.done ⟨rfl, rfl, rfl, rfl⟩)) (cs_trip hC ⟨by omega, by omega⟩ hi h kont2)
      · exact lw_1 hC hk (pr_table 499 dL_law_40 (Or.inr ⟨by decide, by decide, 459, rfl, rfl⟩) (PR.done ⟨rfl, rfl, rfl, rfl⟩)) (cs_share hC hk hi h kont)
      · exact lw_1 hC hk (pr_table 536 dL_law_40 (Or.inr ⟨by decide, by decide, 496, rfl, rfl⟩) (PR.done ⟨rfl, rfl, rfl, rfl⟩)) (cs_gap hC hk hi h kont)
      · exact lw_1 hC hk (pr_table 573 dL_law_40 (Or.inr ⟨by decide, by decide, 533, rfl, rfl⟩) (PR.done ⟨rfl, rfl, rfl, rfl⟩)) (cs_way hC hk hi h kont)
      · exact lw_1 hC hk (pr_table 610 dL_law_40 (Or.inr ⟨by decide, by decide, 570, rfl, rfl⟩) (PR.done ⟨rfl, rfl, rfl, rfl⟩)) (cs_busiest hC hk hi h kont)
      · exact lw_1 hC hk (pr_table 623 dL_law_40 (Or.inr ⟨by decide, by decide, 583, rfl, rfl⟩) (PR.done ⟨rfl, rfl, rfl, rfl⟩)) (cs_hub hC hk hi h kont)
      · exact lw_1 hC hk (pr_table 648 dL_law_40 (Or.inr ⟨by decide, by decide, 608, rfl, rfl⟩) (PR.done ⟨rfl, rfl, rfl, rfl⟩)) (cs_split hC hk hi h kont)
      · exact lw_1 hC hk (pr_table 697 dL_law_40 (Or.inr ⟨by decide, by decide, 657, rfl, rfl⟩) (PR.done ⟨rfl, rfl, rfl, rfl⟩)) (cs_without hC hk hi h kont)
      · exact lw_1 hC hk (pr_table 734 dL_law_40 (Or.inr ⟨by decide, by decide, 694, rfl, rfl⟩) (PR.done ⟨rfl, rfl, rfl, rfl⟩)) (cs_dearest hC hk hi h kont)
      · exact lw_1 hC hk (pr_table 747 dL_law_40 (Or.inr ⟨by decide, by decide, 707, rfl, rfl⟩) (PR.done ⟨rfl, rfl, rfl, rfl⟩)) (cs_fuel hC hk hi h kont)
      · exact lw_1 hC hk (pr_table 784 dL_law_40 (Or.inr ⟨by decide, by decide, 744, rfl, rfl⟩) (PR.done ⟨rfl, rfl, rfl, rfl⟩)) (cs_buy hC hk hi h kont)
      · exact lw_1 hC hk (pr_table 821 dL_law_40 (Or.inr ⟨by decide, by decide, 781, rfl, rfl⟩) (PR.done ⟨rfl, rfl, rfl, rfl⟩)) (cs_weigh hC hk hi h kont)
      · exact lw_1 hC hk (pr_table 858 dL_law_40 (Or.inr ⟨by decide, by decide, 818, rfl, rfl⟩) (PR.done ⟨rfl, rfl, rfl, rfl⟩)) (cs_undo hC hk hi h kont)
  · have hyes : nI L - 6 < nI i := (lw_cmp h3 hi0).mpr (by omega)
    refine lw_1 hC hk (pr_bipush 6 29 dL_law_27 (by decide) rfl (pr_isub 30 dL_law_29 rfl (pr_icmp_gt 877 33 dL_law_30 rfl rfl (fun _ => pr_iconst 1 878 dL_law_877 (by decide) rfl (PR.done ⟨rfl, rfl, rfl, rfl⟩)) (fun z => absurd hyes z)))) ?_
    intro H locs la hl hs hH hS
    exact lw_fin hC hk hS.2.2 dL_law_878
theorem lw_loop (hC : lwC p l s m meth c b L xs ad D cs) : ∀ (n i ka sg : Nat) (o5 o6 : Option pm_v) (mem : pm_M), L ≤ i + 6 * n → ka ≤ 1000 + i → sg ≤ 20000 + 6 * i → i ≤ 3072 → LI mem → LW p l e s m below meth c b ad D cs ka sg 23 (lwL i o5 o6) [] mem
  | 0, i, ka, sg, o5, o6, mem, h1, h2, h3, h4, hI => lw_body hC h2 h3 h4 hI (fun _ _ _ _ _ hi _ _ _ => absurd hi (by omega))
  | n + 1, i, ka, sg, o5, o6, mem, h1, h2, h3, h4, hI => lw_body hC h2 h3 h4 hI (fun ka' sg' o5' o6' mem' hi k1 k2 kI => lw_loop hC n (i + 6) ka' sg' o5' o6' mem' (by omega) k1 k2 (by have := hC.2.2.2.2.2.2.2.2.2.2; omega) kI)
end LOOP
