/-! the law's start: classes, classes of rows, String constants -/
theorem in_cls : ∀ (ci : Nat) (q : vw_C), vwCl[ci]? = some q → ∃ n, Cond.instantiable q.1 n ∈ lw_tbl := by
  intro ci q h
  match ci, h with
  | 0, h => cases h; exact ⟨_, pm_t2 66 rfl⟩
  | 1, h => cases h; exact ⟨_, pm_t2 43 rfl⟩
  | 2, h => cases h; exact ⟨_, pm_t1 194 rfl⟩
  | 3, h => cases h; exact ⟨_, pm_t1 200 rfl⟩
  | 4, h => cases h; exact ⟨_, pm_t1 45 rfl⟩
  | 5, h => cases h; exact ⟨_, pm_t1 120 rfl⟩
  | 6, h => cases h; exact ⟨_, pm_t1 51 rfl⟩
  | 7, h => cases h; exact ⟨_, pm_t1 29 rfl⟩
  | 8, h => cases h; exact ⟨_, pm_t1 21 rfl⟩
  | 9, h => cases h; exact ⟨_, pm_t5 14 rfl⟩
  | c + 10, h => cases h
theorem pc_start {s : State} {b : Nat} (hts : ∀ w ∈ lw_tbl, w.before #[Value.ref b] s = true) : ∃ (D : va_G) (cs : Nat → ClassId), pcG s #[Value.ref b] D cs := by
  have h1 : ∀ ci : Nat, ∃ z : ClassId × (Nat → Nat), ∀ q : vw_C, vwCl[ci]? = some q → u_Kn s q.1 q.2.1 q.2.2 z.1 z.2 := by
    intro ci
    rcases hq : vwCl[ci]? with _ | q
    · exact ⟨(0, fun _ => 0), fun q h => by cases h⟩
    · obtain ⟨n, hn⟩ := in_cls ci q hq
      obtain ⟨cC, iS, hk⟩ := u_known hts (pm_cls ci q hq).2.1 (hts _ hn)
      exact ⟨(cC, iS), fun q' h => by cases h; exact hk⟩
  have ha : ∀ ty : FieldType, Cond.arrayClass ty ∈ lw_tbl → (∀ cA, s.vm.findClass ("[" ++ ty.toString) = some cA → va_RA s cA ty) → ∃ cA : ClassId, ArrOfT s cA ty ∧ va_RA s cA ty := by
    intro ty hw hra
    obtain ⟨cA, kA, comp, h1, h2, h3⟩ := Cond.arrayClass_spec (hts _ hw)
    exact ⟨cA, fun n z => ⟨fun k h => (by cases h), kA, h2, comp, h3⟩, hra cA h1⟩
  obtain ⟨z0, i1, i2⟩ := ha .int (pm_t1 78 rfl) (fun _ h => h)
  obtain ⟨z1, j1, j2⟩ := ha .byte (pm_t1 43 rfl) (fun _ h => h)
  obtain ⟨z2, l1, l2⟩ := ha .long (pm_t1 220 rfl) (fun _ h => h)
  obtain ⟨comp, z3, k3, -, o2, o3, o4⟩ := ao_spec (hts _ (pm_t1 126 rfl))
  obtain ⟨g, hg⟩ := Classical.axiomOfChoice h1
  refine ⟨(fun ci => (g ci).1, fun ci => (g ci).2), fun k => if k = 0 then z0 else if k = 1 then z1 else if k = 2 then z2 else z3, hts, fun ci q hq => hg ci q hq, fun k q hq => ?_⟩
  match k, hq with
  | 0, hq => cases hq; exact ⟨i1, i2⟩
  | 1, hq => cases hq; exact ⟨j1, j2⟩
  | 2, hq => cases hq; exact ⟨l1, l2⟩
  | 3, hq => cases hq; exact ⟨fun n z => ⟨fun k h => (by cases h), k3, o2, comp, o3⟩, o4⟩
  | k + 4, hq => cases hq
def nwT (i : Nat) : Term := .string (pm_str.getD i ("", 0)).1 (pm_str.getD i ("", 0)).2
def nwF : List Cond := flatC (Jvm.Cond.and given_1 narrow_1)
def nwV (i : Nat) : Term := .field (nwT i) "java/lang/String" "value" "[B"
def nw_at : List (List Nat) := [[21, 22, 23, 24], [27, 28, 29, 30], [34, 35, 36, 37], [43, 44, 45, 46], [54, 55, 56, 57], [66, 67, 68, 69], [80, 81, 82, 83], [95, 96, 97, 98], [110, 111, 112, 113], [126, 127, 128, 129], [151, 152, 153, 154], [187, 188, 189, 190], [214, 215, 216, 217]]
def nw_bt : List (List Nat) := [[25, 26], [31, 32], [38, 39, 40], [47, 48, 49, 50], [58, 59, 60, 61], [70, 71, 72, 73, 74], [84, 85, 86, 87, 88], [99, 100, 101, 102], [114, 115, 116, 117], [130, 131, 132, 133, 134, 135, 136, 137, 138, 139, 140, 141], [155, 156, 157, 158, 159, 160, 161, 162, 163, 164, 165, 166, 167, 168, 169, 170, 171, 172, 173, 174, 175, 176], [191, 192, 193, 194, 195, 196, 197, 198, 199, 200, 201, 202], [218, 219, 220, 221, 222, 223, 224, 225, 226, 227, 228, 229, 230, 231, 232, 233, 234, 235, 236, 237, 238, 239]]
def nw_nt : List (List Nat) := [[0, 33, 41, 51, 62, 75, 89, 103, 118, 142, 177, 203, 240], [0, 0, 42, 52, 63, 76, 90, 104, 119, 143, 178, 204, 241], [0, 0, 0, 53, 64, 77, 91, 105, 120, 144, 179, 205, 242], [0, 0, 0, 0, 65, 78, 92, 106, 121, 145, 180, 206, 243], [0, 0, 0, 0, 0, 79, 93, 107, 122, 146, 181, 207, 244], [0, 0, 0, 0, 0, 0, 94, 108, 123, 147, 182, 208, 245], [0, 0, 0, 0, 0, 0, 0, 109, 124, 148, 183, 209, 246], [0, 0, 0, 0, 0, 0, 0, 0, 125, 149, 184, 210, 247], [0, 0, 0, 0, 0, 0, 0, 0, 0, 150, 185, 211, 248], [0, 0, 0, 0, 0, 0, 0, 0, 0, 0, 186, 212, 249], [0, 0, 0, 0, 0, 0, 0, 0, 0, 0, 0, 213, 250], [0, 0, 0, 0, 0, 0, 0, 0, 0, 0, 0, 0, 251], [0, 0, 0, 0, 0, 0, 0, 0, 0, 0, 0, 0, 0]]
theorem nw_g1 : ∀ i, i < 13 → nwF[(nw_at.getD i []).getD 0 0]? = some (Cond.exactly (nwT i) "java/lang/String") ∧ nwF[(nw_at.getD i []).getD 1 0]? = some (Cond.eq (.field (nwT i) "java/lang/String" "coder" "B") (.int 0)) ∧ nwF[(nw_at.getD i []).getD 2 0]? = some (Cond.arrayOf (nwV i) .byte) ∧ nwF[(nw_at.getD i []).getD 3 0]? = some (Cond.eq (.length (nwV i)) (.int (Int32.ofNat (pm_len.getD i 0)))) := by decide +kernel
theorem nw_1 : ∀ i, i < 13 → (Cond.exactly (nwT i) "java/lang/String") ∈ nwF ∧ (Cond.eq (.field (nwT i) "java/lang/String" "coder" "B") (.int 0)) ∈ nwF ∧ (Cond.arrayOf (nwV i) .byte) ∈ nwF ∧ (Cond.eq (.length (nwV i)) (.int (Int32.ofNat (pm_len.getD i 0)))) ∈ nwF :=
  fun i hi => ⟨List.mem_of_getElem? (nw_g1 i hi).1, List.mem_of_getElem? (nw_g1 i hi).2.1, List.mem_of_getElem? (nw_g1 i hi).2.2.1, List.mem_of_getElem? (nw_g1 i hi).2.2.2⟩
theorem nw_g2 : ∀ i, i < 13 → ∀ j, j < pm_len.getD i 0 → nwF[(nw_bt.getD i []).getD j 0]? = some (Cond.eq (.elem (nwV i) (.int (Int32.ofNat j))) (.int ((pm_byt.getD i []).getD j 0))) := by decide +kernel
theorem nw_2 : ∀ i, i < 13 → ∀ j, j < pm_len.getD i 0 → (Cond.eq (.elem (nwV i) (.int (Int32.ofNat j))) (.int ((pm_byt.getD i []).getD j 0))) ∈ nwF := fun i hi j hj => List.mem_of_getElem? (nw_g2 i hi j hj)
theorem nw_g3 : ∀ i, i < 13 → ∀ j, j < 13 → i < j → nwF[(nw_nt.getD i []).getD j 0]? = some (Cond.not (Cond.eq (nwT i) (nwT j))) := by decide +kernel
theorem nw_3 : ∀ i, i < 13 → ∀ j, j < 13 → i ≠ j → (Cond.not (Cond.eq (nwT i) (nwT j))) ∈ nwF ∨ (Cond.not (Cond.eq (nwT j) (nwT i))) ∈ nwF := by
  intro i hi j hj hij
  rcases Nat.lt_or_gt_of_ne hij with h | h
  · exact Or.inl (List.mem_of_getElem? (nw_g3 i hi j hj h))
  · exact Or.inr (List.mem_of_getElem? (nw_g3 j hj i hi h))
theorem nw_4 : ∀ i, i < 13 → pm_len.getD i 0 < 2 ^ 31 := by decide
theorem nw_s : ∀ (k : Nat) (q : String × Nat) (tx : String), pm_str[k]? = some q → pm_txt[k]? = some tx → k < 13 ∧ nwT k = .string q.1 q.2 ∧ Cond.stringRef q.1 q.2 tx ∈ lw_tbl := by
  intro k q tx h1 h2
  match k, h1, h2 with
  | 0, h1, h2 => cases h1; cases h2; exact ⟨by decide, rfl, pm_t3 15 rfl⟩
  | 1, h1, h2 => cases h1; cases h2; exact ⟨by decide, rfl, pm_t3 68 rfl⟩
  | 2, h1, h2 => cases h1; cases h2; exact ⟨by decide, rfl, pm_t3 69 rfl⟩
  | 3, h1, h2 => cases h1; cases h2; exact ⟨by decide, rfl, pm_t3 70 rfl⟩
  | 4, h1, h2 => cases h1; cases h2; exact ⟨by decide, rfl, pm_t3 71 rfl⟩
  | 5, h1, h2 => cases h1; cases h2; exact ⟨by decide, rfl, pm_t3 72 rfl⟩
  | 6, h1, h2 => cases h1; cases h2; exact ⟨by decide, rfl, pm_t3 73 rfl⟩
  | 7, h1, h2 => cases h1; cases h2; exact ⟨by decide, rfl, pm_t3 74 rfl⟩
  | 8, h1, h2 => cases h1; cases h2; exact ⟨by decide, rfl, pm_t3 75 rfl⟩
  | 9, h1, h2 => cases h1; cases h2; exact ⟨by decide, rfl, pm_t4 193 rfl⟩
  | 10, h1, h2 => cases h1; cases h2; exact ⟨by decide, rfl, pm_t4 233 rfl⟩
  | 11, h1, h2 => cases h1; cases h2; exact ⟨by decide, rfl, pm_t5 1 rfl⟩
  | 12, h1, h2 => cases h1; cases h2; exact ⟨by decide, rfl, pm_t5 2 rfl⟩
  | k + 13, h1, h2 => cases h1
/-- the constants, wherever they lie -/
theorem sk_start {s : State} {b : Nat} (hts : ∀ w ∈ lw_tbl, w.before #[Value.ref b] s = true) (hgv : (Jvm.Cond.and given_1 narrow_1).before #[Value.ref b] s = true) : ∃ (adK adV : Nat → Nat) (fm : Nat), ∀ ad : pm_A, (∀ k, k < 13 → ad 99 k = adK k ∧ ad 99 (100 + k) = adV k) → ad 99 200 = fm → pm_SK s ad := by
  have hs := flat_of_before _ hgv
  have hA : ∀ a : Nat, a < s.heap.size → ¬ s.heap.size ≤ a := fun a h => Nat.not_le.mpr h
  obtain ⟨adK, adV, hS, hK⟩ := vk_Sof (A := fun q => s.heap.size ≤ q) (N := 13) (tm := nwT) (len := pm_len) (byt := pm_byt) nw_4 (fun i hi => hs _ (nw_1 i hi).1) (fun i hi => hs _ (nw_1 i hi).2.1) (fun i hi => hs _ (nw_1 i hi).2.2.1) (fun i hi => hs _ (nw_1 i hi).2.2.2) (fun i hi j hj => hs _ (nw_2 i hi j hj)) (fun i j hi hj hij => (nw_3 i hi j hj hij).imp (hs _) (hs _)) hA
  have hcs : va_Z "java/lang/String" "COMPACT_STRINGS" "Z" (.int 1) (fun q => s.heap.size ≤ q) s s.heap := va_Zof (args := #[Value.ref b]) (hts _ (pm_t3 29 rfl)) (hts _ (pm_t1 12 rfl)) (va_eqt (hs _ (by decide +kernel : (Cond.eq (.static "java/lang/String" "COMPACT_STRINGS" "Z") (.int 1)) ∈ nwF))) hA
  have hfq : va_Zq "jdk/internal/util/Preconditions" "SIOOBE_FORMATTER" "Ljava/util/function/BiFunction;" (fun q => s.heap.size ≤ q) s s.heap := va_Zqof (args := #[Value.ref b]) (hts _ (pm_t3 45 rfl)) (hts _ (pm_t1 14 rfl)) (hs _ (by decide +kernel : (Cond.isRef (.static "jdk/internal/util/Preconditions" "SIOOBE_FORMATTER" "Ljava/util/function/BiFunction;")) ∈ nwF)) hA
  obtain ⟨fm, hfm⟩ : ∃ fm : Nat, va_Z "jdk/internal/util/Preconditions" "SIOOBE_FORMATTER" "Ljava/util/function/BiFunction;" .null (fun q => s.heap.size ≤ q) s s.heap ∨ va_Z "jdk/internal/util/Preconditions" "SIOOBE_FORMATTER" "Ljava/util/function/BiFunction;" (.ref fm) (fun q => s.heap.size ≤ q) s s.heap := by
    rcases hfq with h | ⟨t, h⟩
    · exact ⟨0, Or.inl h⟩
    · exact ⟨t, Or.inr h⟩
  refine ⟨adK, adV, fm, fun ad had hf => ⟨⟨fun i hi => ?_, fun i j hi hj e => hS.2 i j hi hj ?_⟩, fun k q tx h1 h2 => ?_, hcs, ?_⟩⟩
  · have := hS.1 i hi
    show va_O _ (ad 99 i) _ _ _ ∧ va_OF _ _ _ _ (ad 99 i) _ _ _ ∧ va_OF _ _ _ (.ref (ad 99 (100 + i))) (ad 99 i) _ _ _ ∧ va_T _ (ad 99 (100 + i)) _ _ _ _ _
    rw [(had i hi).1, (had i hi).2]
    exact this
  · rw [(had i hi).1, (had j hj).1] at e
    exact e
  · obtain ⟨hk, ht, hw⟩ := nw_s k q tx h1 h2
    rw [(had k hk).1]
    have h3 := hK k hk
    rw [ht] at h3
    exact vk_R.of (hts _ hw) h3
  · rw [hf]
    exact hfm
