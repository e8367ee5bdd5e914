/-! the constructors: made by wip/whole/gen99zh.py -/
def fsX7 : Nat → List Value := fun b => [.ref (b + 0), .int 0]
def clX7 : (Nat → ClassId) → Nat → List va_E := fun cs b => [.inl (cs 1, 840, .inl (fun _ => 0))]
set_option maxRecDepth 100000 in
theorem ct_X7 : Ct yX7_init cX7_init 1 7 [.null, .int 0] 1 840 1 12 [] (fsX7) (clX7) := by
  refine Ct.of (xs := []) (rpc := 13) rfl rfl (Nat.le_of_ble_eq_true rfl) dX7_init_13 (fun p l e s m args below meth c Q S0 a0 D cs a hC hk => ?_)
  refine b_aload_n (j := 0) 1 hC dX7_init_0 rfl rfl rfl ?_
  refine b_obj 4 hC dX7_init_1 (pm_t1 33 rfl) (pm_t1 26 rfl) (pm_t1 27 rfl) rfl ⟨Nat.le_of_ble_eq_true rfl, Nat.le_of_ble_eq_true rfl⟩ rfl ?_
  refine b_aload_n (j := 0) 5 hC dX7_init_4 rfl rfl rfl ?_
  refine b_sipush 840 8 hC dX7_init_5 (by decide) rfl ?_
  refine b_newa (N := 840) (z := 1) (ty := .byte) 10 hC dX7_init_8 rfl rfl (fun h => h) (pm_t1 43 rfl) (.inl (cs 1, 840, .inl (fun _ => 0))) (fun _ _ h => h) (by decide) (by decide) (Nat.le_of_ble_eq_true rfl) ⟨Nat.le_of_ble_eq_true rfl, Nat.le_of_ble_eq_true rfl⟩ rfl ?_
  refine b_put (k := 0) (ty := .array .byte) 13 hC dX7_init_10 rfl (by decide) (pm_t1 34 rfl) rfl (by decide +kernel) rfl rfl (Nat.le_of_ble_eq_true rfl) rfl rfl ?_
  exact hk
def fsX6 (t : Nat) : Nat → List Value := fun b => [.ref t, .int 0, .int 0, .int 0, .int 0, .int 0]
def clX6 (t : Nat) : (Nat → ClassId) → Nat → List va_E := fun cs b => []
set_option maxRecDepth 100000 in
theorem ct_X6 (t : Nat) : Ct yX6_init cX6_init 2 6 [.null, .int 0, .int 0, .int 0, .int 0, .int 0] 0 0 1 12 [.ref t] (fsX6 t) (clX6 t) := by
  refine Ct.of (xs := [t]) (rpc := 9) rfl rfl (Nat.le_of_ble_eq_true rfl) dX6_init_9 (fun p l e s m args below meth c Q S0 a0 D cs a hC hk => ?_)
  refine b_aload_n (j := 0) 1 hC dX6_init_0 rfl rfl rfl ?_
  refine b_obj 4 hC dX6_init_1 (pm_t1 55 rfl) (pm_t1 26 rfl) (pm_t1 27 rfl) rfl ⟨Nat.le_of_ble_eq_true rfl, Nat.le_of_ble_eq_true rfl⟩ rfl ?_
  refine b_aload_n (j := 0) 5 hC dX6_init_4 rfl rfl rfl ?_
  refine b_aload_n (j := 1) 6 hC dX6_init_5 rfl rfl rfl ?_
  refine b_put (k := 0) (ty := .object "FreightShare$Tape") 9 hC dX6_init_6 rfl (by decide) (pm_t1 56 rfl) rfl (by decide +kernel) rfl rfl (Nat.le_of_ble_eq_true rfl) rfl rfl ?_
  exact hk
def fsX4 (t : Nat) : Nat → List Value := fun b => [.ref (b + 1), .null, .int 0, .int 0, .int 0, .int 0, .ref (b + 0), .int 0, .int 0, .int 0, .int 0, .int 0]
def clX4 (t : Nat) : (Nat → ClassId) → Nat → List va_E := fun cs b => [.inl (cs 0, 3, .inl (fun _ => 0)), .inr (6, [.ref t, .int 0, .int 0, .int 0, .int 0, .int 0])]
set_option maxRecDepth 100000 in
theorem ct_X4 (t : Nat) : Ct yX4_init cX4_init 2 4 [.null, .null, .int 0, .int 0, .int 0, .int 0, .null, .int 0, .int 0, .int 0, .int 0, .int 0] 2 9 2 33 [.ref t] (fsX4 t) (clX4 t) := by
  refine Ct.of (xs := [t]) (rpc := 23) rfl rfl (Nat.le_of_ble_eq_true rfl) dX4_init_23 (fun p l e s m args below meth c Q S0 a0 D cs a hC hk => ?_)
  refine b_aload_n (j := 0) 1 hC dX4_init_0 rfl rfl rfl ?_
  refine b_obj 4 hC dX4_init_1 (pm_t1 49 rfl) (pm_t1 26 rfl) (pm_t1 27 rfl) rfl ⟨Nat.le_of_ble_eq_true rfl, Nat.le_of_ble_eq_true rfl⟩ rfl ?_
  refine b_aload_n (j := 0) 5 hC dX4_init_4 rfl rfl rfl ?_
  refine b_iconst 3 6 hC dX4_init_5 (by decide) rfl ?_
  refine b_newa (N := 3) (z := 0) (ty := .int) 8 hC dX4_init_6 rfl rfl (fun h => h) (pm_t1 78 rfl) (.inl (cs 0, 3, .inl (fun _ => 0))) (fun _ _ h => h) (by decide) (by decide) (Nat.le_of_ble_eq_true rfl) ⟨Nat.le_of_ble_eq_true rfl, Nat.le_of_ble_eq_true rfl⟩ rfl ?_
  refine b_put (k := 6) (ty := .array .int) 11 hC dX4_init_8 rfl (by decide) (pm_t1 88 rfl) rfl (by decide +kernel) rfl rfl (Nat.le_of_ble_eq_true rfl) rfl rfl ?_
  refine b_aload_n (j := 0) 12 hC dX4_init_11 rfl rfl rfl ?_
  refine b_new (ci' := 6) [.null, .int 0, .int 0, .int 0, .int 0, .int 0] 15 hC dX4_init_12 rfl (pm_t1 50 rfl) (pm_t1 51 rfl) (pm_t1 4 rfl) tyX6 tyX6_ok (fun j hj => match j, hj with | 0, _ => rfl | 1, _ => rfl | 2, _ => rfl | 3, _ => rfl | 4, _ => rfl | 5, _ => rfl | j + 6, h => absurd h (by show ¬ j + 6 < 6; omega)) ⟨Nat.le_of_ble_eq_true rfl, Nat.le_of_ble_eq_true rfl⟩ rfl ?_
  refine b_dup 16 hC dX4_init_15 rfl rfl ?_
  refine b_aload_n (j := 1) 17 hC dX4_init_16 rfl rfl rfl ?_
  refine b_call (y := yX6_init) (xs := [.ref t]) ([.inl (cs 0, 3, .inl (fun _ => 0))]) 20 hC dX4_init_17 mX6_init ⟨rfl, (pm_t1 53 rfl), (pm_t1 52 rfl)⟩ (ct_X6 (t)) rfl rfl ⟨Nat.le_of_ble_eq_true rfl, Nat.le_of_ble_eq_true rfl, Nat.le_of_ble_eq_true rfl, Nat.le_of_ble_eq_true rfl⟩ (Nat.le_of_ble_eq_true rfl) rfl ?_
  refine b_put (k := 0) (ty := .object "FreightShare$Scanner") 23 hC dX4_init_20 rfl (by decide) (pm_t1 79 rfl) rfl (by decide +kernel) rfl rfl (Nat.le_of_ble_eq_true rfl) rfl rfl ?_
  exact hk
def fsX3 : Nat → List Value := fun b => [.ref (b + 0), .ref (b + 1), .ref (b + 2), .int 0]
def clX3 : (Nat → ClassId) → Nat → List va_E := fun cs b => [.inl (cs 0, 16, .inl (fun _ => 0)), .inl (cs 0, 16, .inl (fun _ => 0)), .inl (cs 2, 16, .inr (.inl (fun _ => 0)))]
set_option maxRecDepth 100000 in
theorem ct_X3 : Ct yX3_init cX3_init 1 3 [.null, .null, .null, .int 0] 3 48 1 12 [] (fsX3) (clX3) := by
  refine Ct.of (xs := []) (rpc := 28) rfl rfl (Nat.le_of_ble_eq_true rfl) dX3_init_28 (fun p l e s m args below meth c Q S0 a0 D cs a hC hk => ?_)
  refine b_aload_n (j := 0) 1 hC dX3_init_0 rfl rfl rfl ?_
  refine b_obj 4 hC dX3_init_1 (pm_t1 204 rfl) (pm_t1 26 rfl) (pm_t1 27 rfl) rfl ⟨Nat.le_of_ble_eq_true rfl, Nat.le_of_ble_eq_true rfl⟩ rfl ?_
  refine b_aload_n (j := 0) 5 hC dX3_init_4 rfl rfl rfl ?_
  refine b_bipush 16 7 hC dX3_init_5 (by decide) rfl ?_
  refine b_newa (N := 16) (z := 0) (ty := .int) 9 hC dX3_init_7 rfl rfl (fun h => h) (pm_t1 78 rfl) (.inl (cs 0, 16, .inl (fun _ => 0))) (fun _ _ h => h) (by decide) (by decide) (Nat.le_of_ble_eq_true rfl) ⟨Nat.le_of_ble_eq_true rfl, Nat.le_of_ble_eq_true rfl⟩ rfl ?_
  refine b_put (k := 0) (ty := .array .int) 12 hC dX3_init_9 rfl (by decide) (pm_t1 205 rfl) rfl (by decide +kernel) rfl rfl (Nat.le_of_ble_eq_true rfl) rfl rfl ?_
  refine b_aload_n (j := 0) 13 hC dX3_init_12 rfl rfl rfl ?_
  refine b_bipush 16 15 hC dX3_init_13 (by decide) rfl ?_
  refine b_newa (N := 16) (z := 0) (ty := .int) 17 hC dX3_init_15 rfl rfl (fun h => h) (pm_t1 78 rfl) (.inl (cs 0, 16, .inl (fun _ => 0))) (fun _ _ h => h) (by decide) (by decide) (Nat.le_of_ble_eq_true rfl) ⟨Nat.le_of_ble_eq_true rfl, Nat.le_of_ble_eq_true rfl⟩ rfl ?_
  refine b_put (k := 1) (ty := .array .int) 20 hC dX3_init_17 rfl (by decide) (pm_t1 207 rfl) rfl (by decide +kernel) rfl rfl (Nat.le_of_ble_eq_true rfl) rfl rfl ?_
  refine b_aload_n (j := 0) 21 hC dX3_init_20 rfl rfl rfl ?_
  refine b_bipush 16 23 hC dX3_init_21 (by decide) rfl ?_
  refine b_newa (N := 16) (z := 2) (ty := .long) 25 hC dX3_init_23 rfl rfl (fun h => h) (pm_t1 220 rfl) (.inl (cs 2, 16, .inr (.inl (fun _ => 0)))) (fun _ _ h => h) (by decide) (by decide) (Nat.le_of_ble_eq_true rfl) ⟨Nat.le_of_ble_eq_true rfl, Nat.le_of_ble_eq_true rfl⟩ rfl ?_
  refine b_put (k := 2) (ty := .array .long) 28 hC dX3_init_25 rfl (by decide) (pm_t1 208 rfl) rfl (by decide +kernel) rfl rfl (Nat.le_of_ble_eq_true rfl) rfl rfl ?_
  exact hk
def fsX2 : Nat → List Value := fun b => [.ref (b + 0), .null, .null, .int 0, .ref (b + 4), .ref (b + 5), .ref (b + 6), .ref (b + 7), .ref (b + 8), .ref (b + 25), .ref (b + 26), .ref (b + 27), .ref (b + 28), .int 0, .ref (b + 45), .ref (b + 46)]
def clX2 : (Nat → ClassId) → Nat → List va_E := fun cs b => [.inr (3, [.ref (b + 1), .ref (b + 2), .ref (b + 3), .int 0]), .inl (cs 0, 16, .inl (fun _ => 0)), .inl (cs 0, 16, .inl (fun _ => 0)), .inl (cs 2, 16, .inr (.inl (fun _ => 0))), .inl (cs 0, 16, .inl (fun _ => 0)), .inl (cs 0, 16, .inl (fun _ => 0)), .inl (cs 0, 16, .inl (fun _ => 0)), .inl (cs 0, 16, .inl (fun _ => 0)), .inl (cs 3, 16, .inr (.inr (.inr (.inr (fun j => some (b + 8 + 1 + j)))))), .inl (cs 0, 16, .inl (fun _ => 0)), .inl (cs 0, 16, .inl (fun _ => 0)), .inl (cs 0, 16, .inl (fun _ => 0)), .inl (cs 0, 16, .inl (fun _ => 0)), .inl (cs 0, 16, .inl (fun _ => 0)), .inl (cs 0, 16, .inl (fun _ => 0)), .inl (cs 0, 16, .inl (fun _ => 0)), .inl (cs 0, 16, .inl (fun _ => 0)), .inl (cs 0, 16, .inl (fun _ => 0)), .inl (cs 0, 16, .inl (fun _ => 0)), .inl (cs 0, 16, .inl (fun _ => 0)), .inl (cs 0, 16, .inl (fun _ => 0)), .inl (cs 0, 16, .inl (fun _ => 0)), .inl (cs 0, 16, .inl (fun _ => 0)), .inl (cs 0, 16, .inl (fun _ => 0)), .inl (cs 0, 16, .inl (fun _ => 0)), .inl (cs 0, 16, .inl (fun _ => 0)), .inl (cs 0, 16, .inl (fun _ => 0)), .inl (cs 0, 16, .inl (fun _ => 0)), .inl (cs 3, 16, .inr (.inr (.inr (.inr (fun j => some (b + 28 + 1 + j)))))), .inl (cs 0, 16, .inl (fun _ => 0)), .inl (cs 0, 16, .inl (fun _ => 0)), .inl (cs 0, 16, .inl (fun _ => 0)), .inl (cs 0, 16, .inl (fun _ => 0)), .inl (cs 0, 16, .inl (fun _ => 0)), .inl (cs 0, 16, .inl (fun _ => 0)), .inl (cs 0, 16, .inl (fun _ => 0)), .inl (cs 0, 16, .inl (fun _ => 0)), .inl (cs 0, 16, .inl (fun _ => 0)), .inl (cs 0, 16, .inl (fun _ => 0)), .inl (cs 0, 16, .inl (fun _ => 0)), .inl (cs 0, 16, .inl (fun _ => 0)), .inl (cs 0, 16, .inl (fun _ => 0)), .inl (cs 0, 16, .inl (fun _ => 0)), .inl (cs 0, 16, .inl (fun _ => 0)), .inl (cs 0, 16, .inl (fun _ => 0)), .inl (cs 0, 16, .inl (fun _ => 0)), .inl (cs 0, 16, .inl (fun _ => 0))]
set_option maxRecDepth 100000 in
theorem ct_X2 : Ct yX2_init cX2_init 1 2 [.null, .null, .null, .int 0, .null, .null, .null, .null, .null, .null, .null, .null, .null, .int 0, .null, .null] 47 740 2 32 [] (fsX2) (clX2) := by
  refine Ct.of (xs := []) (rpc := 111) rfl rfl (Nat.le_of_ble_eq_true rfl) dX2_init_111 (fun p l e s m args below meth c Q S0 a0 D cs a hC hk => ?_)
  refine b_aload_n (j := 0) 1 hC dX2_init_0 rfl rfl rfl ?_
  refine b_obj 4 hC dX2_init_1 (pm_t1 198 rfl) (pm_t1 26 rfl) (pm_t1 27 rfl) rfl ⟨Nat.le_of_ble_eq_true rfl, Nat.le_of_ble_eq_true rfl⟩ rfl ?_
  refine b_aload_n (j := 0) 5 hC dX2_init_4 rfl rfl rfl ?_
  refine b_new (ci' := 3) [.null, .null, .null, .int 0] 8 hC dX2_init_5 rfl (pm_t1 199 rfl) (pm_t1 200 rfl) (pm_t1 7 rfl) tyX3 tyX3_ok (fun j hj => match j, hj with | 0, _ => rfl | 1, _ => rfl | 2, _ => rfl | 3, _ => rfl | j + 4, h => absurd h (by show ¬ j + 4 < 4; omega)) ⟨Nat.le_of_ble_eq_true rfl, Nat.le_of_ble_eq_true rfl⟩ rfl ?_
  refine b_dup 9 hC dX2_init_8 rfl rfl ?_
  refine b_callN (y := yX3_init) (xs := []) ([]) 12 hC dX2_init_9 mX3_init ⟨rfl, (pm_t1 202 rfl), (pm_t1 201 rfl)⟩ ct_X3 rfl rfl ⟨Nat.le_of_ble_eq_true rfl, Nat.le_of_ble_eq_true rfl, Nat.le_of_ble_eq_true rfl, Nat.le_of_ble_eq_true rfl⟩ (Nat.le_of_ble_eq_true rfl) rfl ?_
  refine b_put (k := 0) (ty := .object "FreightShare$Parter") 15 hC dX2_init_12 rfl (by decide) (pm_t1 222 rfl) rfl (by decide +kernel) rfl rfl (Nat.le_of_ble_eq_true rfl) rfl rfl ?_
  refine b_aload_n (j := 0) 16 hC dX2_init_15 rfl rfl rfl ?_
  refine b_bipush 16 18 hC dX2_init_16 (by decide) rfl ?_
  refine b_newa (N := 16) (z := 0) (ty := .int) 20 hC dX2_init_18 rfl rfl (fun h => h) (pm_t1 78 rfl) (.inl (cs 0, 16, .inl (fun _ => 0))) (fun _ _ h => h) (by decide) (by decide) (Nat.le_of_ble_eq_true rfl) ⟨Nat.le_of_ble_eq_true rfl, Nat.le_of_ble_eq_true rfl⟩ rfl ?_
  refine b_put (k := 4) (ty := .array .int) 23 hC dX2_init_20 rfl (by decide) (pm_t1 226 rfl) rfl (by decide +kernel) rfl rfl (Nat.le_of_ble_eq_true rfl) rfl rfl ?_
  refine b_aload_n (j := 0) 24 hC dX2_init_23 rfl rfl rfl ?_
  refine b_bipush 16 26 hC dX2_init_24 (by decide) rfl ?_
  refine b_newa (N := 16) (z := 0) (ty := .int) 28 hC dX2_init_26 rfl rfl (fun h => h) (pm_t1 78 rfl) (.inl (cs 0, 16, .inl (fun _ => 0))) (fun _ _ h => h) (by decide) (by decide) (Nat.le_of_ble_eq_true rfl) ⟨Nat.le_of_ble_eq_true rfl, Nat.le_of_ble_eq_true rfl⟩ rfl ?_
  refine b_put (k := 5) (ty := .array .int) 31 hC dX2_init_28 rfl (by decide) (pm_t1 228 rfl) rfl (by decide +kernel) rfl rfl (Nat.le_of_ble_eq_true rfl) rfl rfl ?_
  refine b_aload_n (j := 0) 32 hC dX2_init_31 rfl rfl rfl ?_
  refine b_bipush 16 34 hC dX2_init_32 (by decide) rfl ?_
  refine b_newa (N := 16) (z := 0) (ty := .int) 36 hC dX2_init_34 rfl rfl (fun h => h) (pm_t1 78 rfl) (.inl (cs 0, 16, .inl (fun _ => 0))) (fun _ _ h => h) (by decide) (by decide) (Nat.le_of_ble_eq_true rfl) ⟨Nat.le_of_ble_eq_true rfl, Nat.le_of_ble_eq_true rfl⟩ rfl ?_
  refine b_put (k := 6) (ty := .array .int) 39 hC dX2_init_36 rfl (by decide) (pm_t1 229 rfl) rfl (by decide +kernel) rfl rfl (Nat.le_of_ble_eq_true rfl) rfl rfl ?_
  refine b_aload_n (j := 0) 40 hC dX2_init_39 rfl rfl rfl ?_
  refine b_bipush 16 42 hC dX2_init_40 (by decide) rfl ?_
  refine b_newa (N := 16) (z := 0) (ty := .int) 44 hC dX2_init_42 rfl rfl (fun h => h) (pm_t1 78 rfl) (.inl (cs 0, 16, .inl (fun _ => 0))) (fun _ _ h => h) (by decide) (by decide) (Nat.le_of_ble_eq_true rfl) ⟨Nat.le_of_ble_eq_true rfl, Nat.le_of_ble_eq_true rfl⟩ rfl ?_
  refine b_put (k := 7) (ty := .array .int) 47 hC dX2_init_44 rfl (by decide) (pm_t1 231 rfl) rfl (by decide +kernel) rfl rfl (Nat.le_of_ble_eq_true rfl) rfl rfl ?_
  refine b_aload_n (j := 0) 48 hC dX2_init_47 rfl rfl rfl ?_
  refine b_bipush 16 50 hC dX2_init_48 (by decide) rfl ?_
  refine b_bipush 16 52 hC dX2_init_50 (by decide) rfl ?_
  refine b_mna (N := 16) (M := 16) 56 hC dX2_init_52 (pm_t1 221 rfl) (pm_t1 126 rfl) (pm_t1 78 rfl) (by decide) (by decide) (by decide) (by decide) (Nat.le_of_ble_eq_true rfl) (Nat.le_of_ble_eq_true rfl) ⟨Nat.le_of_ble_eq_true rfl, Nat.le_of_ble_eq_true rfl⟩ rfl ?_
  refine b_put (k := 8) (ty := .array (.array .int)) 59 hC dX2_init_56 rfl (by decide) (pm_t1 233 rfl) rfl (by decide +kernel) rfl rfl (Nat.le_of_ble_eq_true rfl) rfl rfl ?_
  refine b_aload_n (j := 0) 60 hC dX2_init_59 rfl rfl rfl ?_
  refine b_bipush 16 62 hC dX2_init_60 (by decide) rfl ?_
  refine b_newa (N := 16) (z := 0) (ty := .int) 64 hC dX2_init_62 rfl rfl (fun h => h) (pm_t1 78 rfl) (.inl (cs 0, 16, .inl (fun _ => 0))) (fun _ _ h => h) (by decide) (by decide) (Nat.le_of_ble_eq_true rfl) ⟨Nat.le_of_ble_eq_true rfl, Nat.le_of_ble_eq_true rfl⟩ rfl ?_
  refine b_put (k := 9) (ty := .array .int) 67 hC dX2_init_64 rfl (by decide) (pm_t1 235 rfl) rfl (by decide +kernel) rfl rfl (Nat.le_of_ble_eq_true rfl) rfl rfl ?_
  refine b_aload_n (j := 0) 68 hC dX2_init_67 rfl rfl rfl ?_
  refine b_bipush 16 70 hC dX2_init_68 (by decide) rfl ?_
  refine b_newa (N := 16) (z := 0) (ty := .int) 72 hC dX2_init_70 rfl rfl (fun h => h) (pm_t1 78 rfl) (.inl (cs 0, 16, .inl (fun _ => 0))) (fun _ _ h => h) (by decide) (by decide) (Nat.le_of_ble_eq_true rfl) ⟨Nat.le_of_ble_eq_true rfl, Nat.le_of_ble_eq_true rfl⟩ rfl ?_
  refine b_put (k := 10) (ty := .array .int) 75 hC dX2_init_72 rfl (by decide) (pm_t1 237 rfl) rfl (by decide +kernel) rfl rfl (Nat.le_of_ble_eq_true rfl) rfl rfl ?_
  refine b_aload_n (j := 0) 76 hC dX2_init_75 rfl rfl rfl ?_
  refine b_bipush 16 78 hC dX2_init_76 (by decide) rfl ?_
  refine b_newa (N := 16) (z := 0) (ty := .int) 80 hC dX2_init_78 rfl rfl (fun h => h) (pm_t1 78 rfl) (.inl (cs 0, 16, .inl (fun _ => 0))) (fun _ _ h => h) (by decide) (by decide) (Nat.le_of_ble_eq_true rfl) ⟨Nat.le_of_ble_eq_true rfl, Nat.le_of_ble_eq_true rfl⟩ rfl ?_
  refine b_put (k := 11) (ty := .array .int) 83 hC dX2_init_80 rfl (by decide) (pm_t1 239 rfl) rfl (by decide +kernel) rfl rfl (Nat.le_of_ble_eq_true rfl) rfl rfl ?_
  refine b_aload_n (j := 0) 84 hC dX2_init_83 rfl rfl rfl ?_
  refine b_bipush 16 86 hC dX2_init_84 (by decide) rfl ?_
  refine b_bipush 16 88 hC dX2_init_86 (by decide) rfl ?_
  refine b_mna (N := 16) (M := 16) 92 hC dX2_init_88 (pm_t1 221 rfl) (pm_t1 126 rfl) (pm_t1 78 rfl) (by decide) (by decide) (by decide) (by decide) (Nat.le_of_ble_eq_true rfl) (Nat.le_of_ble_eq_true rfl) ⟨Nat.le_of_ble_eq_true rfl, Nat.le_of_ble_eq_true rfl⟩ rfl ?_
  refine b_put (k := 12) (ty := .array (.array .int)) 95 hC dX2_init_92 rfl (by decide) (pm_t2 1 rfl) rfl (by decide +kernel) rfl rfl (Nat.le_of_ble_eq_true rfl) rfl rfl ?_
  refine b_aload_n (j := 0) 96 hC dX2_init_95 rfl rfl rfl ?_
  refine b_bipush 16 98 hC dX2_init_96 (by decide) rfl ?_
  refine b_newa (N := 16) (z := 0) (ty := .int) 100 hC dX2_init_98 rfl rfl (fun h => h) (pm_t1 78 rfl) (.inl (cs 0, 16, .inl (fun _ => 0))) (fun _ _ h => h) (by decide) (by decide) (Nat.le_of_ble_eq_true rfl) ⟨Nat.le_of_ble_eq_true rfl, Nat.le_of_ble_eq_true rfl⟩ rfl ?_
  refine b_put (k := 14) (ty := .array .int) 103 hC dX2_init_100 rfl (by decide) (pm_t2 5 rfl) rfl (by decide +kernel) rfl rfl (Nat.le_of_ble_eq_true rfl) rfl rfl ?_
  refine b_aload_n (j := 0) 104 hC dX2_init_103 rfl rfl rfl ?_
  refine b_bipush 16 106 hC dX2_init_104 (by decide) rfl ?_
  refine b_newa (N := 16) (z := 0) (ty := .int) 108 hC dX2_init_106 rfl rfl (fun h => h) (pm_t1 78 rfl) (.inl (cs 0, 16, .inl (fun _ => 0))) (fun _ _ h => h) (by decide) (by decide) (Nat.le_of_ble_eq_true rfl) ⟨Nat.le_of_ble_eq_true rfl, Nat.le_of_ble_eq_true rfl⟩ rfl ?_
  refine b_put (k := 15) (ty := .array .int) 111 hC dX2_init_108 rfl (by decide) (pm_t2 7 rfl) rfl (by decide +kernel) rfl rfl (Nat.le_of_ble_eq_true rfl) rfl rfl ?_
  exact hk
def fsX1 : Nat → List Value := fun b => [.ref (b + 0), .ref (b + 1), .ref (b + 2), .int 0]
def clX1 : (Nat → ClassId) → Nat → List va_E := fun cs b => [.inl (cs 0, 12, .inl (fun _ => 0)), .inl (cs 0, 12, .inl (fun _ => 0)), .inl (cs 0, 12, .inl (fun _ => 0))]
set_option maxRecDepth 100000 in
theorem ct_X1 : Ct yX1_init cX1_init 1 1 [.null, .null, .null, .int 0] 3 36 1 12 [] (fsX1) (clX1) := by
  refine Ct.of (xs := []) (rpc := 28) rfl rfl (Nat.le_of_ble_eq_true rfl) dX1_init_28 (fun p l e s m args below meth c Q S0 a0 D cs a hC hk => ?_)
  refine b_aload_n (j := 0) 1 hC dX1_init_0 rfl rfl rfl ?_
  refine b_obj 4 hC dX1_init_1 (pm_t2 47 rfl) (pm_t1 26 rfl) (pm_t1 27 rfl) rfl ⟨Nat.le_of_ble_eq_true rfl, Nat.le_of_ble_eq_true rfl⟩ rfl ?_
  refine b_aload_n (j := 0) 5 hC dX1_init_4 rfl rfl rfl ?_
  refine b_bipush 12 7 hC dX1_init_5 (by decide) rfl ?_
  refine b_newa (N := 12) (z := 0) (ty := .int) 9 hC dX1_init_7 rfl rfl (fun h => h) (pm_t1 78 rfl) (.inl (cs 0, 12, .inl (fun _ => 0))) (fun _ _ h => h) (by decide) (by decide) (Nat.le_of_ble_eq_true rfl) ⟨Nat.le_of_ble_eq_true rfl, Nat.le_of_ble_eq_true rfl⟩ rfl ?_
  refine b_put (k := 0) (ty := .array .int) 12 hC dX1_init_9 rfl (by decide) (pm_t2 48 rfl) rfl (by decide +kernel) rfl rfl (Nat.le_of_ble_eq_true rfl) rfl rfl ?_
  refine b_aload_n (j := 0) 13 hC dX1_init_12 rfl rfl rfl ?_
  refine b_bipush 12 15 hC dX1_init_13 (by decide) rfl ?_
  refine b_newa (N := 12) (z := 0) (ty := .int) 17 hC dX1_init_15 rfl rfl (fun h => h) (pm_t1 78 rfl) (.inl (cs 0, 12, .inl (fun _ => 0))) (fun _ _ h => h) (by decide) (by decide) (Nat.le_of_ble_eq_true rfl) ⟨Nat.le_of_ble_eq_true rfl, Nat.le_of_ble_eq_true rfl⟩ rfl ?_
  refine b_put (k := 1) (ty := .array .int) 20 hC dX1_init_17 rfl (by decide) (pm_t2 50 rfl) rfl (by decide +kernel) rfl rfl (Nat.le_of_ble_eq_true rfl) rfl rfl ?_
  refine b_aload_n (j := 0) 21 hC dX1_init_20 rfl rfl rfl ?_
  refine b_bipush 12 23 hC dX1_init_21 (by decide) rfl ?_
  refine b_newa (N := 12) (z := 0) (ty := .int) 25 hC dX1_init_23 rfl rfl (fun h => h) (pm_t1 78 rfl) (.inl (cs 0, 12, .inl (fun _ => 0))) (fun _ _ h => h) (by decide) (by decide) (Nat.le_of_ble_eq_true rfl) ⟨Nat.le_of_ble_eq_true rfl, Nat.le_of_ble_eq_true rfl⟩ rfl ?_
  refine b_put (k := 2) (ty := .array .int) 28 hC dX1_init_25 rfl (by decide) (pm_t2 52 rfl) rfl (by decide +kernel) rfl rfl (Nat.le_of_ble_eq_true rfl) rfl rfl ?_
  exact hk
def fsX0 : Nat → List Value := fun b => [.int 0, .int 0, .int 0, .int 0, .int 0, .int 0, .ref (b + 0), .ref (b + 1), .ref (b + 2), .ref (b + 3), .ref (b + 4), .ref (b + 5), .ref (b + 6), .ref (b + 7), .ref (b + 8), .ref (b + 9), .ref (b + 10), .ref (b + 11), .ref (b + 12)]
def clX0 : (Nat → ClassId) → Nat → List va_E := fun cs b => [.inl (cs 0, 12, .inl (fun _ => 0)), .inl (cs 0, 12, .inl (fun _ => 0)), .inl (cs 0, 4, .inl (fun _ => 0)), .inl (cs 0, 4, .inl (fun _ => 0)), .inl (cs 0, 16, .inl (fun _ => 0)), .inl (cs 0, 16, .inl (fun _ => 0)), .inl (cs 0, 16, .inl (fun _ => 0)), .inl (cs 0, 16, .inl (fun _ => 0)), .inl (cs 0, 16, .inl (fun _ => 0)), .inl (cs 0, 16, .inl (fun _ => 0)), .inl (cs 0, 16, .inl (fun _ => 0)), .inl (cs 0, 200, .inl (fun _ => 0)), .inl (cs 0, 200, .inl (fun _ => 0))]
set_option maxRecDepth 100000 in
theorem ct_X0 : Ct yX0_init cX0_init 1 0 [.int 0, .int 0, .int 0, .int 0, .int 0, .int 0, .null, .null, .null, .null, .null, .null, .null, .null, .null, .null, .null, .null, .null] 13 544 1 12 [] (fsX0) (clX0) := by
  refine Ct.of (xs := []) (rpc := 108) rfl rfl (Nat.le_of_ble_eq_true rfl) dX0_init_108 (fun p l e s m args below meth c Q S0 a0 D cs a hC hk => ?_)
  refine b_aload_n (j := 0) 1 hC dX0_init_0 rfl rfl rfl ?_
  refine b_obj 4 hC dX0_init_1 (pm_t2 70 rfl) (pm_t1 26 rfl) (pm_t1 27 rfl) rfl ⟨Nat.le_of_ble_eq_true rfl, Nat.le_of_ble_eq_true rfl⟩ rfl ?_
  refine b_aload_n (j := 0) 5 hC dX0_init_4 rfl rfl rfl ?_
  refine b_bipush 12 7 hC dX0_init_5 (by decide) rfl ?_
  refine b_newa (N := 12) (z := 0) (ty := .int) 9 hC dX0_init_7 rfl rfl (fun h => h) (pm_t1 78 rfl) (.inl (cs 0, 12, .inl (fun _ => 0))) (fun _ _ h => h) (by decide) (by decide) (Nat.le_of_ble_eq_true rfl) ⟨Nat.le_of_ble_eq_true rfl, Nat.le_of_ble_eq_true rfl⟩ rfl ?_
  refine b_put (k := 6) (ty := .array .int) 12 hC dX0_init_9 rfl (by decide) (pm_t2 93 rfl) rfl (by decide +kernel) rfl rfl (Nat.le_of_ble_eq_true rfl) rfl rfl ?_
  refine b_aload_n (j := 0) 13 hC dX0_init_12 rfl rfl rfl ?_
  refine b_bipush 12 15 hC dX0_init_13 (by decide) rfl ?_
  refine b_newa (N := 12) (z := 0) (ty := .int) 17 hC dX0_init_15 rfl rfl (fun h => h) (pm_t1 78 rfl) (.inl (cs 0, 12, .inl (fun _ => 0))) (fun _ _ h => h) (by decide) (by decide) (Nat.le_of_ble_eq_true rfl) ⟨Nat.le_of_ble_eq_true rfl, Nat.le_of_ble_eq_true rfl⟩ rfl ?_
  refine b_put (k := 7) (ty := .array .int) 20 hC dX0_init_17 rfl (by decide) (pm_t2 94 rfl) rfl (by decide +kernel) rfl rfl (Nat.le_of_ble_eq_true rfl) rfl rfl ?_
  refine b_aload_n (j := 0) 21 hC dX0_init_20 rfl rfl rfl ?_
  refine b_iconst 4 22 hC dX0_init_21 (by decide) rfl ?_
  refine b_newa (N := 4) (z := 0) (ty := .int) 24 hC dX0_init_22 rfl rfl (fun h => h) (pm_t1 78 rfl) (.inl (cs 0, 4, .inl (fun _ => 0))) (fun _ _ h => h) (by decide) (by decide) (Nat.le_of_ble_eq_true rfl) ⟨Nat.le_of_ble_eq_true rfl, Nat.le_of_ble_eq_true rfl⟩ rfl ?_
  refine b_put (k := 8) (ty := .array .int) 27 hC dX0_init_24 rfl (by decide) (pm_t2 95 rfl) rfl (by decide +kernel) rfl rfl (Nat.le_of_ble_eq_true rfl) rfl rfl ?_
  refine b_aload_n (j := 0) 28 hC dX0_init_27 rfl rfl rfl ?_
  refine b_iconst 4 29 hC dX0_init_28 (by decide) rfl ?_
  refine b_newa (N := 4) (z := 0) (ty := .int) 31 hC dX0_init_29 rfl rfl (fun h => h) (pm_t1 78 rfl) (.inl (cs 0, 4, .inl (fun _ => 0))) (fun _ _ h => h) (by decide) (by decide) (Nat.le_of_ble_eq_true rfl) ⟨Nat.le_of_ble_eq_true rfl, Nat.le_of_ble_eq_true rfl⟩ rfl ?_
  refine b_put (k := 9) (ty := .array .int) 34 hC dX0_init_31 rfl (by decide) (pm_t2 98 rfl) rfl (by decide +kernel) rfl rfl (Nat.le_of_ble_eq_true rfl) rfl rfl ?_
  refine b_aload_n (j := 0) 35 hC dX0_init_34 rfl rfl rfl ?_
  refine b_bipush 16 37 hC dX0_init_35 (by decide) rfl ?_
  refine b_newa (N := 16) (z := 0) (ty := .int) 39 hC dX0_init_37 rfl rfl (fun h => h) (pm_t1 78 rfl) (.inl (cs 0, 16, .inl (fun _ => 0))) (fun _ _ h => h) (by decide) (by decide) (Nat.le_of_ble_eq_true rfl) ⟨Nat.le_of_ble_eq_true rfl, Nat.le_of_ble_eq_true rfl⟩ rfl ?_
  refine b_put (k := 10) (ty := .array .int) 42 hC dX0_init_39 rfl (by decide) (pm_t2 101 rfl) rfl (by decide +kernel) rfl rfl (Nat.le_of_ble_eq_true rfl) rfl rfl ?_
  refine b_aload_n (j := 0) 43 hC dX0_init_42 rfl rfl rfl ?_
  refine b_bipush 16 45 hC dX0_init_43 (by decide) rfl ?_
  refine b_newa (N := 16) (z := 0) (ty := .int) 47 hC dX0_init_45 rfl rfl (fun h => h) (pm_t1 78 rfl) (.inl (cs 0, 16, .inl (fun _ => 0))) (fun _ _ h => h) (by decide) (by decide) (Nat.le_of_ble_eq_true rfl) ⟨Nat.le_of_ble_eq_true rfl, Nat.le_of_ble_eq_true rfl⟩ rfl ?_
  refine b_put (k := 11) (ty := .array .int) 50 hC dX0_init_47 rfl (by decide) (pm_t2 104 rfl) rfl (by decide +kernel) rfl rfl (Nat.le_of_ble_eq_true rfl) rfl rfl ?_
  refine b_aload_n (j := 0) 51 hC dX0_init_50 rfl rfl rfl ?_
  refine b_bipush 16 53 hC dX0_init_51 (by decide) rfl ?_
  refine b_newa (N := 16) (z := 0) (ty := .int) 55 hC dX0_init_53 rfl rfl (fun h => h) (pm_t1 78 rfl) (.inl (cs 0, 16, .inl (fun _ => 0))) (fun _ _ h => h) (by decide) (by decide) (Nat.le_of_ble_eq_true rfl) ⟨Nat.le_of_ble_eq_true rfl, Nat.le_of_ble_eq_true rfl⟩ rfl ?_
  refine b_put (k := 12) (ty := .array .int) 58 hC dX0_init_55 rfl (by decide) (pm_t2 108 rfl) rfl (by decide +kernel) rfl rfl (Nat.le_of_ble_eq_true rfl) rfl rfl ?_
  refine b_aload_n (j := 0) 59 hC dX0_init_58 rfl rfl rfl ?_
  refine b_bipush 16 61 hC dX0_init_59 (by decide) rfl ?_
  refine b_newa (N := 16) (z := 0) (ty := .int) 63 hC dX0_init_61 rfl rfl (fun h => h) (pm_t1 78 rfl) (.inl (cs 0, 16, .inl (fun _ => 0))) (fun _ _ h => h) (by decide) (by decide) (Nat.le_of_ble_eq_true rfl) ⟨Nat.le_of_ble_eq_true rfl, Nat.le_of_ble_eq_true rfl⟩ rfl ?_
  refine b_put (k := 13) (ty := .array .int) 66 hC dX0_init_63 rfl (by decide) (pm_t2 112 rfl) rfl (by decide +kernel) rfl rfl (Nat.le_of_ble_eq_true rfl) rfl rfl ?_
  refine b_aload_n (j := 0) 67 hC dX0_init_66 rfl rfl rfl ?_
  refine b_bipush 16 69 hC dX0_init_67 (by decide) rfl ?_
  refine b_newa (N := 16) (z := 0) (ty := .int) 71 hC dX0_init_69 rfl rfl (fun h => h) (pm_t1 78 rfl) (.inl (cs 0, 16, .inl (fun _ => 0))) (fun _ _ h => h) (by decide) (by decide) (Nat.le_of_ble_eq_true rfl) ⟨Nat.le_of_ble_eq_true rfl, Nat.le_of_ble_eq_true rfl⟩ rfl ?_
  refine b_put (k := 14) (ty := .array .int) 74 hC dX0_init_71 rfl (by decide) (pm_t2 116 rfl) rfl (by decide +kernel) rfl rfl (Nat.le_of_ble_eq_true rfl) rfl rfl ?_
  refine b_aload_n (j := 0) 75 hC dX0_init_74 rfl rfl rfl ?_
  refine b_bipush 16 77 hC dX0_init_75 (by decide) rfl ?_
  refine b_newa (N := 16) (z := 0) (ty := .int) 79 hC dX0_init_77 rfl rfl (fun h => h) (pm_t1 78 rfl) (.inl (cs 0, 16, .inl (fun _ => 0))) (fun _ _ h => h) (by decide) (by decide) (Nat.le_of_ble_eq_true rfl) ⟨Nat.le_of_ble_eq_true rfl, Nat.le_of_ble_eq_true rfl⟩ rfl ?_
  refine b_put (k := 15) (ty := .array .int) 82 hC dX0_init_79 rfl (by decide) (pm_t2 119 rfl) rfl (by decide +kernel) rfl rfl (Nat.le_of_ble_eq_true rfl) rfl rfl ?_
  refine b_aload_n (j := 0) 83 hC dX0_init_82 rfl rfl rfl ?_
  refine b_bipush 16 85 hC dX0_init_83 (by decide) rfl ?_
  refine b_newa (N := 16) (z := 0) (ty := .int) 87 hC dX0_init_85 rfl rfl (fun h => h) (pm_t1 78 rfl) (.inl (cs 0, 16, .inl (fun _ => 0))) (fun _ _ h => h) (by decide) (by decide) (Nat.le_of_ble_eq_true rfl) ⟨Nat.le_of_ble_eq_true rfl, Nat.le_of_ble_eq_true rfl⟩ rfl ?_
  refine b_put (k := 16) (ty := .array .int) 90 hC dX0_init_87 rfl (by decide) (pm_t2 122 rfl) rfl (by decide +kernel) rfl rfl (Nat.le_of_ble_eq_true rfl) rfl rfl ?_
  refine b_aload_n (j := 0) 91 hC dX0_init_90 rfl rfl rfl ?_
  refine b_sipush 200 94 hC dX0_init_91 (by decide) rfl ?_
  refine b_newa (N := 200) (z := 0) (ty := .int) 96 hC dX0_init_94 rfl rfl (fun h => h) (pm_t1 78 rfl) (.inl (cs 0, 200, .inl (fun _ => 0))) (fun _ _ h => h) (by decide) (by decide) (Nat.le_of_ble_eq_true rfl) ⟨Nat.le_of_ble_eq_true rfl, Nat.le_of_ble_eq_true rfl⟩ rfl ?_
  refine b_put (k := 17) (ty := .array .int) 99 hC dX0_init_96 rfl (by decide) (pm_t2 124 rfl) rfl (by decide +kernel) rfl rfl (Nat.le_of_ble_eq_true rfl) rfl rfl ?_
  refine b_aload_n (j := 0) 100 hC dX0_init_99 rfl rfl rfl ?_
  refine b_sipush 200 103 hC dX0_init_100 (by decide) rfl ?_
  refine b_newa (N := 200) (z := 0) (ty := .int) 105 hC dX0_init_103 rfl rfl (fun h => h) (pm_t1 78 rfl) (.inl (cs 0, 200, .inl (fun _ => 0))) (fun _ _ h => h) (by decide) (by decide) (Nat.le_of_ble_eq_true rfl) ⟨Nat.le_of_ble_eq_true rfl, Nat.le_of_ble_eq_true rfl⟩ rfl ?_
  refine b_put (k := 18) (ty := .array .int) 108 hC dX0_init_105 rfl (by decide) (pm_t2 126 rfl) rfl (by decide +kernel) rfl rfl (Nat.le_of_ble_eq_true rfl) rfl rfl ?_
  exact hk
def fsX5 : Nat → List Value := fun b => [.null, .ref (b + 0), .ref (b + 1), .ref (b + 2), .ref (b + 3), .ref (b + 4), .ref (b + 21), .ref (b + 38), .ref (b + 51), .ref (b + 68), .ref (b + 69), .ref (b + 70), .int 0, .ref (b + 71), .ref (b + 72), .ref (b + 73)]
def clX5 : (Nat → ClassId) → Nat → List va_E := fun cs b => [.inl (cs 0, 16, .inl (fun _ => 0)), .inl (cs 0, 16, .inl (fun _ => 0)), .inl (cs 0, 16, .inl (fun _ => 0)), .inl (cs 0, 16, .inl (fun _ => 0)), .inl (cs 3, 16, .inr (.inr (.inr (.inr (fun j => some (b + 4 + 1 + j)))))), .inl (cs 0, 16, .inl (fun _ => 0)), .inl (cs 0, 16, .inl (fun _ => 0)), .inl (cs 0, 16, .inl (fun _ => 0)), .inl (cs 0, 16, .inl (fun _ => 0)), .inl (cs 0, 16, .inl (fun _ => 0)), .inl (cs 0, 16, .inl (fun _ => 0)), .inl (cs 0, 16, .inl (fun _ => 0)), .inl (cs 0, 16, .inl (fun _ => 0)), .inl (cs 0, 16, .inl (fun _ => 0)), .inl (cs 0, 16, .inl (fun _ => 0)), .inl (cs 0, 16, .inl (fun _ => 0)), .inl (cs 0, 16, .inl (fun _ => 0)), .inl (cs 0, 16, .inl (fun _ => 0)), .inl (cs 0, 16, .inl (fun _ => 0)), .inl (cs 0, 16, .inl (fun _ => 0)), .inl (cs 0, 16, .inl (fun _ => 0)), .inl (cs 3, 16, .inr (.inr (.inr (.inr (fun j => some (b + 21 + 1 + j)))))), .inl (cs 0, 16, .inl (fun _ => 0)), .inl (cs 0, 16, .inl (fun _ => 0)), .inl (cs 0, 16, .inl (fun _ => 0)), .inl (cs 0, 16, .inl (fun _ => 0)), .inl (cs 0, 16, .inl (fun _ => 0)), .inl (cs 0, 16, .inl (fun _ => 0)), .inl (cs 0, 16, .inl (fun _ => 0)), .inl (cs 0, 16, .inl (fun _ => 0)), .inl (cs 0, 16, .inl (fun _ => 0)), .inl (cs 0, 16, .inl (fun _ => 0)), .inl (cs 0, 16, .inl (fun _ => 0)), .inl (cs 0, 16, .inl (fun _ => 0)), .inl (cs 0, 16, .inl (fun _ => 0)), .inl (cs 0, 16, .inl (fun _ => 0)), .inl (cs 0, 16, .inl (fun _ => 0)), .inl (cs 0, 16, .inl (fun _ => 0)), .inl (cs 3, 12, .inr (.inr (.inr (.inr (fun j => some (b + 38 + 1 + j)))))), .inl (cs 0, 12, .inl (fun _ => 0)), .inl (cs 0, 12, .inl (fun _ => 0)), .inl (cs 0, 12, .inl (fun _ => 0)), .inl (cs 0, 12, .inl (fun _ => 0)), .inl (cs 0, 12, .inl (fun _ => 0)), .inl (cs 0, 12, .inl (fun _ => 0)), .inl (cs 0, 12, .inl (fun _ => 0)), .inl (cs 0, 12, .inl (fun _ => 0)), .inl (cs 0, 12, .inl (fun _ => 0)), .inl (cs 0, 12, .inl (fun _ => 0)), .inl (cs 0, 12, .inl (fun _ => 0)), .inl (cs 0, 12, .inl (fun _ => 0)), .inl (cs 3, 16, .inr (.inr (.inr (.inr (fun j => some (b + 51 + 1 + j)))))), .inl (cs 0, 12, .inl (fun _ => 0)), .inl (cs 0, 12, .inl (fun _ => 0)), .inl (cs 0, 12, .inl (fun _ => 0)), .inl (cs 0, 12, .inl (fun _ => 0)), .inl (cs 0, 12, .inl (fun _ => 0)), .inl (cs 0, 12, .inl (fun _ => 0)), .inl (cs 0, 12, .inl (fun _ => 0)), .inl (cs 0, 12, .inl (fun _ => 0)), .inl (cs 0, 12, .inl (fun _ => 0)), .inl (cs 0, 12, .inl (fun _ => 0)), .inl (cs 0, 12, .inl (fun _ => 0)), .inl (cs 0, 12, .inl (fun _ => 0)), .inl (cs 0, 12, .inl (fun _ => 0)), .inl (cs 0, 12, .inl (fun _ => 0)), .inl (cs 0, 12, .inl (fun _ => 0)), .inl (cs 0, 12, .inl (fun _ => 0)), .inl (cs 0, 16, .inl (fun _ => 0)), .inl (cs 0, 16, .inl (fun _ => 0)), .inl (cs 0, 16, .inl (fun _ => 0)), .inl (cs 0, 288, .inl (fun _ => 0)), .inl (cs 0, 288, .inl (fun _ => 0)), .inl (cs 0, 288, .inl (fun _ => 0))]
set_option maxRecDepth 100000 in
theorem ct_X5 : Ct yX5_init cX5_init 1 5 [.null, .null, .null, .null, .null, .null, .null, .null, .null, .null, .null, .null, .int 0, .null, .null, .null] 74 1884 1 12 [] (fsX5) (clX5) := by
  refine Ct.of (xs := []) (rpc := 135) rfl rfl (Nat.le_of_ble_eq_true rfl) dX5_init_135 (fun p l e s m args below meth c Q S0 a0 D cs a hC hk => ?_)
  refine b_aload_n (j := 0) 1 hC dX5_init_0 rfl rfl rfl ?_
  refine b_obj 4 hC dX5_init_1 (pm_t1 124 rfl) (pm_t1 26 rfl) (pm_t1 27 rfl) rfl ⟨Nat.le_of_ble_eq_true rfl, Nat.le_of_ble_eq_true rfl⟩ rfl ?_
  refine b_aload_n (j := 0) 5 hC dX5_init_4 rfl rfl rfl ?_
  refine b_bipush 16 7 hC dX5_init_5 (by decide) rfl ?_
  refine b_newa (N := 16) (z := 0) (ty := .int) 9 hC dX5_init_7 rfl rfl (fun h => h) (pm_t1 78 rfl) (.inl (cs 0, 16, .inl (fun _ => 0))) (fun _ _ h => h) (by decide) (by decide) (Nat.le_of_ble_eq_true rfl) ⟨Nat.le_of_ble_eq_true rfl, Nat.le_of_ble_eq_true rfl⟩ rfl ?_
  refine b_put (k := 1) (ty := .array .int) 12 hC dX5_init_9 rfl (by decide) (pm_t1 128 rfl) rfl (by decide +kernel) rfl rfl (Nat.le_of_ble_eq_true rfl) rfl rfl ?_
  refine b_aload_n (j := 0) 13 hC dX5_init_12 rfl rfl rfl ?_
  refine b_bipush 16 15 hC dX5_init_13 (by decide) rfl ?_
  refine b_newa (N := 16) (z := 0) (ty := .int) 17 hC dX5_init_15 rfl rfl (fun h => h) (pm_t1 78 rfl) (.inl (cs 0, 16, .inl (fun _ => 0))) (fun _ _ h => h) (by decide) (by decide) (Nat.le_of_ble_eq_true rfl) ⟨Nat.le_of_ble_eq_true rfl, Nat.le_of_ble_eq_true rfl⟩ rfl ?_
  refine b_put (k := 2) (ty := .array .int) 20 hC dX5_init_17 rfl (by decide) (pm_t1 131 rfl) rfl (by decide +kernel) rfl rfl (Nat.le_of_ble_eq_true rfl) rfl rfl ?_
  refine b_aload_n (j := 0) 21 hC dX5_init_20 rfl rfl rfl ?_
  refine b_bipush 16 23 hC dX5_init_21 (by decide) rfl ?_
  refine b_newa (N := 16) (z := 0) (ty := .int) 25 hC dX5_init_23 rfl rfl (fun h => h) (pm_t1 78 rfl) (.inl (cs 0, 16, .inl (fun _ => 0))) (fun _ _ h => h) (by decide) (by decide) (Nat.le_of_ble_eq_true rfl) ⟨Nat.le_of_ble_eq_true rfl, Nat.le_of_ble_eq_true rfl⟩ rfl ?_
  refine b_put (k := 3) (ty := .array .int) 28 hC dX5_init_25 rfl (by decide) (pm_t1 133 rfl) rfl (by decide +kernel) rfl rfl (Nat.le_of_ble_eq_true rfl) rfl rfl ?_
  refine b_aload_n (j := 0) 29 hC dX5_init_28 rfl rfl rfl ?_
  refine b_bipush 16 31 hC dX5_init_29 (by decide) rfl ?_
  refine b_newa (N := 16) (z := 0) (ty := .int) 33 hC dX5_init_31 rfl rfl (fun h => h) (pm_t1 78 rfl) (.inl (cs 0, 16, .inl (fun _ => 0))) (fun _ _ h => h) (by decide) (by decide) (Nat.le_of_ble_eq_true rfl) ⟨Nat.le_of_ble_eq_true rfl, Nat.le_of_ble_eq_true rfl⟩ rfl ?_
  refine b_put (k := 4) (ty := .array .int) 36 hC dX5_init_33 rfl (by decide) (pm_t1 135 rfl) rfl (by decide +kernel) rfl rfl (Nat.le_of_ble_eq_true rfl) rfl rfl ?_
  refine b_aload_n (j := 0) 37 hC dX5_init_36 rfl rfl rfl ?_
  refine b_bipush 16 39 hC dX5_init_37 (by decide) rfl ?_
  refine b_bipush 16 41 hC dX5_init_39 (by decide) rfl ?_
  refine b_mna (N := 16) (M := 16) 45 hC dX5_init_41 (pm_t1 125 rfl) (pm_t1 126 rfl) (pm_t1 78 rfl) (by decide) (by decide) (by decide) (by decide) (Nat.le_of_ble_eq_true rfl) (Nat.le_of_ble_eq_true rfl) ⟨Nat.le_of_ble_eq_true rfl, Nat.le_of_ble_eq_true rfl⟩ rfl ?_
  refine b_put (k := 5) (ty := .array (.array .int)) 48 hC dX5_init_45 rfl (by decide) (pm_t1 138 rfl) rfl (by decide +kernel) rfl rfl (Nat.le_of_ble_eq_true rfl) rfl rfl ?_
  refine b_aload_n (j := 0) 49 hC dX5_init_48 rfl rfl rfl ?_
  refine b_bipush 16 51 hC dX5_init_49 (by decide) rfl ?_
  refine b_bipush 16 53 hC dX5_init_51 (by decide) rfl ?_
  refine b_mna (N := 16) (M := 16) 57 hC dX5_init_53 (pm_t1 125 rfl) (pm_t1 126 rfl) (pm_t1 78 rfl) (by decide) (by decide) (by decide) (by decide) (Nat.le_of_ble_eq_true rfl) (Nat.le_of_ble_eq_true rfl) ⟨Nat.le_of_ble_eq_true rfl, Nat.le_of_ble_eq_true rfl⟩ rfl ?_
  refine b_put (k := 6) (ty := .array (.array .int)) 60 hC dX5_init_57 rfl (by decide) (pm_t1 140 rfl) rfl (by decide +kernel) rfl rfl (Nat.le_of_ble_eq_true rfl) rfl rfl ?_
  refine b_aload_n (j := 0) 61 hC dX5_init_60 rfl rfl rfl ?_
  refine b_bipush 12 63 hC dX5_init_61 (by decide) rfl ?_
  refine b_bipush 12 65 hC dX5_init_63 (by decide) rfl ?_
  refine b_mna (N := 12) (M := 12) 69 hC dX5_init_65 (pm_t1 125 rfl) (pm_t1 126 rfl) (pm_t1 78 rfl) (by decide) (by decide) (by decide) (by decide) (Nat.le_of_ble_eq_true rfl) (Nat.le_of_ble_eq_true rfl) ⟨Nat.le_of_ble_eq_true rfl, Nat.le_of_ble_eq_true rfl⟩ rfl ?_
  refine b_put (k := 7) (ty := .array (.array .int)) 72 hC dX5_init_69 rfl (by decide) (pm_t1 142 rfl) rfl (by decide +kernel) rfl rfl (Nat.le_of_ble_eq_true rfl) rfl rfl ?_
  refine b_aload_n (j := 0) 73 hC dX5_init_72 rfl rfl rfl ?_
  refine b_bipush 16 75 hC dX5_init_73 (by decide) rfl ?_
  refine b_bipush 12 77 hC dX5_init_75 (by decide) rfl ?_
  refine b_mna (N := 16) (M := 12) 81 hC dX5_init_77 (pm_t1 125 rfl) (pm_t1 126 rfl) (pm_t1 78 rfl) (by decide) (by decide) (by decide) (by decide) (Nat.le_of_ble_eq_true rfl) (Nat.le_of_ble_eq_true rfl) ⟨Nat.le_of_ble_eq_true rfl, Nat.le_of_ble_eq_true rfl⟩ rfl ?_
  refine b_put (k := 8) (ty := .array (.array .int)) 84 hC dX5_init_81 rfl (by decide) (pm_t1 144 rfl) rfl (by decide +kernel) rfl rfl (Nat.le_of_ble_eq_true rfl) rfl rfl ?_
  refine b_aload_n (j := 0) 85 hC dX5_init_84 rfl rfl rfl ?_
  refine b_bipush 16 87 hC dX5_init_85 (by decide) rfl ?_
  refine b_newa (N := 16) (z := 0) (ty := .int) 89 hC dX5_init_87 rfl rfl (fun h => h) (pm_t1 78 rfl) (.inl (cs 0, 16, .inl (fun _ => 0))) (fun _ _ h => h) (by decide) (by decide) (Nat.le_of_ble_eq_true rfl) ⟨Nat.le_of_ble_eq_true rfl, Nat.le_of_ble_eq_true rfl⟩ rfl ?_
  refine b_put (k := 9) (ty := .array .int) 92 hC dX5_init_89 rfl (by decide) (pm_t1 146 rfl) rfl (by decide +kernel) rfl rfl (Nat.le_of_ble_eq_true rfl) rfl rfl ?_
  refine b_aload_n (j := 0) 93 hC dX5_init_92 rfl rfl rfl ?_
  refine b_bipush 16 95 hC dX5_init_93 (by decide) rfl ?_
  refine b_newa (N := 16) (z := 0) (ty := .int) 97 hC dX5_init_95 rfl rfl (fun h => h) (pm_t1 78 rfl) (.inl (cs 0, 16, .inl (fun _ => 0))) (fun _ _ h => h) (by decide) (by decide) (Nat.le_of_ble_eq_true rfl) ⟨Nat.le_of_ble_eq_true rfl, Nat.le_of_ble_eq_true rfl⟩ rfl ?_
  refine b_put (k := 10) (ty := .array .int) 100 hC dX5_init_97 rfl (by decide) (pm_t1 148 rfl) rfl (by decide +kernel) rfl rfl (Nat.le_of_ble_eq_true rfl) rfl rfl ?_
  refine b_aload_n (j := 0) 101 hC dX5_init_100 rfl rfl rfl ?_
  refine b_bipush 16 103 hC dX5_init_101 (by decide) rfl ?_
  refine b_newa (N := 16) (z := 0) (ty := .int) 105 hC dX5_init_103 rfl rfl (fun h => h) (pm_t1 78 rfl) (.inl (cs 0, 16, .inl (fun _ => 0))) (fun _ _ h => h) (by decide) (by decide) (Nat.le_of_ble_eq_true rfl) ⟨Nat.le_of_ble_eq_true rfl, Nat.le_of_ble_eq_true rfl⟩ rfl ?_
  refine b_put (k := 11) (ty := .array .int) 108 hC dX5_init_105 rfl (by decide) (pm_t1 150 rfl) rfl (by decide +kernel) rfl rfl (Nat.le_of_ble_eq_true rfl) rfl rfl ?_
  refine b_aload_n (j := 0) 109 hC dX5_init_108 rfl rfl rfl ?_
  refine b_sipush 288 112 hC dX5_init_109 (by decide) rfl ?_
  refine b_newa (N := 288) (z := 0) (ty := .int) 114 hC dX5_init_112 rfl rfl (fun h => h) (pm_t1 78 rfl) (.inl (cs 0, 288, .inl (fun _ => 0))) (fun _ _ h => h) (by decide) (by decide) (Nat.le_of_ble_eq_true rfl) ⟨Nat.le_of_ble_eq_true rfl, Nat.le_of_ble_eq_true rfl⟩ rfl ?_
  refine b_put (k := 13) (ty := .array .int) 117 hC dX5_init_114 rfl (by decide) (pm_t1 154 rfl) rfl (by decide +kernel) rfl rfl (Nat.le_of_ble_eq_true rfl) rfl rfl ?_
  refine b_aload_n (j := 0) 118 hC dX5_init_117 rfl rfl rfl ?_
  refine b_sipush 288 121 hC dX5_init_118 (by decide) rfl ?_
  refine b_newa (N := 288) (z := 0) (ty := .int) 123 hC dX5_init_121 rfl rfl (fun h => h) (pm_t1 78 rfl) (.inl (cs 0, 288, .inl (fun _ => 0))) (fun _ _ h => h) (by decide) (by decide) (Nat.le_of_ble_eq_true rfl) ⟨Nat.le_of_ble_eq_true rfl, Nat.le_of_ble_eq_true rfl⟩ rfl ?_
  refine b_put (k := 14) (ty := .array .int) 126 hC dX5_init_123 rfl (by decide) (pm_t1 156 rfl) rfl (by decide +kernel) rfl rfl (Nat.le_of_ble_eq_true rfl) rfl rfl ?_
  refine b_aload_n (j := 0) 127 hC dX5_init_126 rfl rfl rfl ?_
  refine b_sipush 288 130 hC dX5_init_127 (by decide) rfl ?_
  refine b_newa (N := 288) (z := 0) (ty := .int) 132 hC dX5_init_130 rfl rfl (fun h => h) (pm_t1 78 rfl) (.inl (cs 0, 288, .inl (fun _ => 0))) (fun _ _ h => h) (by decide) (by decide) (Nat.le_of_ble_eq_true rfl) ⟨Nat.le_of_ble_eq_true rfl, Nat.le_of_ble_eq_true rfl⟩ rfl ?_
  refine b_put (k := 15) (ty := .array .int) 135 hC dX5_init_132 rfl (by decide) (pm_t1 158 rfl) rfl (by decide +kernel) rfl rfl (Nat.le_of_ble_eq_true rfl) rfl rfl ?_
  exact hk
