theorem pm_t1 {w : Cond} (i : Nat) (h : tables_1_1[i]? = some w) : w ∈ lw_tbl := by
  have h := List.mem_of_getElem? h
  exact List.mem_append_right _ (List.mem_append_left _ h)
theorem pm_t2 {w : Cond} (i : Nat) (h : tables_1_2[i]? = some w) : w ∈ lw_tbl := by
  have h := List.mem_of_getElem? h
  exact List.mem_append_right _ (List.mem_append_right _ (List.mem_append_left _ h))
theorem pm_t3 {w : Cond} (i : Nat) (h : tables_1_3[i]? = some w) : w ∈ lw_tbl := by
  have h := List.mem_of_getElem? h
  exact List.mem_append_right _ (List.mem_append_right _ (List.mem_append_right _ (List.mem_append_left _ h)))
theorem pm_t4 {w : Cond} (i : Nat) (h : tables_1_4[i]? = some w) : w ∈ lw_tbl := by
  have h := List.mem_of_getElem? h
  exact List.mem_append_right _ (List.mem_append_right _ (List.mem_append_right _ (List.mem_append_right _ (List.mem_append_left _ h))))
theorem pm_t5 {w : Cond} (i : Nat) (h : tables_1_5[i]? = some w) : w ∈ lw_tbl := by
  have h := List.mem_of_getElem? h
  exact List.mem_append_right _ (List.mem_append_right _ (List.mem_append_right _ (List.mem_append_right _ (List.mem_append_right _ (List.mem_append_left _ h)))))
theorem pm_t6 {w : Cond} (i : Nat) (h : tables_1_6[i]? = some w) : w ∈ lw_tbl := by
  have h := List.mem_of_getElem? h
  exact List.mem_append_right _ (List.mem_append_right _ (List.mem_append_right _ (List.mem_append_right _ (List.mem_append_right _ (List.mem_append_right _ h)))))
theorem pm_uws {C : String} {T : u_T} {N : Nat} (h : ∀ k, k < N → u_lay C T k ∈ lw_tbl) : ∀ w ∈ u_ws C T N, w ∈ lw_tbl := by
  intro w hw
  obtain ⟨k, hk, e⟩ := List.mem_map.mp hw
  rw [← e]
  exact h k (List.mem_range.mp hk)
theorem pm_uw0 : ∀ k, k < 19 → u_lay RX0 TX0 k ∈ lw_tbl := fun k hk => match k, hk with
  | 0, _ => pm_t2 128 rfl
  | 1, _ => pm_t2 130 rfl
  | 2, _ => pm_t2 132 rfl
  | 3, _ => pm_t2 134 rfl
  | 4, _ => pm_t2 136 rfl
  | 5, _ => pm_t2 138 rfl
  | 6, _ => pm_t2 140 rfl
  | 7, _ => pm_t2 142 rfl
  | 8, _ => pm_t2 144 rfl
  | 9, _ => pm_t2 146 rfl
  | 10, _ => pm_t2 148 rfl
  | 11, _ => pm_t2 150 rfl
  | 12, _ => pm_t2 152 rfl
  | 13, _ => pm_t2 154 rfl
  | 14, _ => pm_t2 156 rfl
  | 15, _ => pm_t2 158 rfl
  | 16, _ => pm_t2 160 rfl
  | 17, _ => pm_t2 162 rfl
  | 18, _ => pm_t2 164 rfl
  | k + 19, hk => absurd hk (by omega)
theorem pm_uw1 : ∀ k, k < 4 → u_lay RX1 TX1 k ∈ lw_tbl := fun k hk => match k, hk with
  | 0, _ => pm_t2 56 rfl
  | 1, _ => pm_t2 58 rfl
  | 2, _ => pm_t2 60 rfl
  | 3, _ => pm_t2 62 rfl
  | k + 4, hk => absurd hk (by omega)
theorem pm_uw2 : ∀ k, k < 16 → u_lay RX2 TX2 k ∈ lw_tbl := fun k hk => match k, hk with
  | 0, _ => pm_t2 9 rfl
  | 1, _ => pm_t2 11 rfl
  | 2, _ => pm_t2 13 rfl
  | 3, _ => pm_t2 15 rfl
  | 4, _ => pm_t2 17 rfl
  | 5, _ => pm_t2 19 rfl
  | 6, _ => pm_t2 21 rfl
  | 7, _ => pm_t2 23 rfl
  | 8, _ => pm_t2 25 rfl
  | 9, _ => pm_t2 27 rfl
  | 10, _ => pm_t2 29 rfl
  | 11, _ => pm_t2 31 rfl
  | 12, _ => pm_t2 33 rfl
  | 13, _ => pm_t2 35 rfl
  | 14, _ => pm_t2 37 rfl
  | 15, _ => pm_t2 39 rfl
  | k + 16, hk => absurd hk (by omega)
theorem pm_uw3 : ∀ k, k < 4 → u_lay RX3 TX3 k ∈ lw_tbl := fun k hk => match k, hk with
  | 0, _ => pm_t1 211 rfl
  | 1, _ => pm_t1 213 rfl
  | 2, _ => pm_t1 215 rfl
  | 3, _ => pm_t1 217 rfl
  | k + 4, hk => absurd hk (by omega)
theorem pm_uw4 : ∀ k, k < 12 → u_lay RX4 TX4 k ∈ lw_tbl := fun k hk => match k, hk with
  | 0, _ => pm_t1 94 rfl
  | 1, _ => pm_t1 96 rfl
  | 2, _ => pm_t1 98 rfl
  | 3, _ => pm_t1 100 rfl
  | 4, _ => pm_t1 102 rfl
  | 5, _ => pm_t1 104 rfl
  | 6, _ => pm_t1 106 rfl
  | 7, _ => pm_t1 108 rfl
  | 8, _ => pm_t1 110 rfl
  | 9, _ => pm_t1 112 rfl
  | 10, _ => pm_t1 114 rfl
  | 11, _ => pm_t1 116 rfl
  | k + 12, hk => absurd hk (by omega)
theorem pm_uw5 : ∀ k, k < 16 → u_lay RX5 TX5 k ∈ lw_tbl := fun k hk => match k, hk with
  | 0, _ => pm_t1 160 rfl
  | 1, _ => pm_t1 162 rfl
  | 2, _ => pm_t1 164 rfl
  | 3, _ => pm_t1 166 rfl
  | 4, _ => pm_t1 168 rfl
  | 5, _ => pm_t1 170 rfl
  | 6, _ => pm_t1 172 rfl
  | 7, _ => pm_t1 174 rfl
  | 8, _ => pm_t1 176 rfl
  | 9, _ => pm_t1 178 rfl
  | 10, _ => pm_t1 180 rfl
  | 11, _ => pm_t1 182 rfl
  | 12, _ => pm_t1 184 rfl
  | 13, _ => pm_t1 186 rfl
  | 14, _ => pm_t1 188 rfl
  | 15, _ => pm_t1 190 rfl
  | k + 16, hk => absurd hk (by omega)
theorem pm_uw6 : ∀ k, k < 6 → u_lay RX6 TX6 k ∈ lw_tbl := fun k hk => match k, hk with
  | 0, _ => pm_t1 65 rfl
  | 1, _ => pm_t1 67 rfl
  | 2, _ => pm_t1 69 rfl
  | 3, _ => pm_t1 71 rfl
  | 4, _ => pm_t1 73 rfl
  | 5, _ => pm_t1 75 rfl
  | k + 6, hk => absurd hk (by omega)
theorem pm_uw7 : ∀ k, k < 2 → u_lay RX7 TX7 k ∈ lw_tbl := fun k hk => match k, hk with
  | 0, _ => pm_t1 38 rfl
  | 1, _ => pm_t1 40 rfl
  | k + 2, hk => absurd hk (by omega)
theorem pm_uw8 : ∀ k, k < 9 → u_lay RX8 TX8 k ∈ lw_tbl := fun k hk => match k, hk with
  | 0, _ => pm_t2 176 rfl
  | 1, _ => pm_t2 178 rfl
  | 2, _ => pm_t2 180 rfl
  | 3, _ => pm_t2 182 rfl
  | 4, _ => pm_t2 184 rfl
  | 5, _ => pm_t2 186 rfl
  | 6, _ => pm_t2 188 rfl
  | 7, _ => pm_t2 190 rfl
  | 8, _ => pm_t2 192 rfl
  | k + 9, hk => absurd hk (by omega)
theorem pm_uw9 : ∀ k, k < 31 → u_lay RX9 TX9 k ∈ lw_tbl := fun k hk => match k, hk with
  | 0, _ => pm_t5 56 rfl
  | 1, _ => pm_t5 58 rfl
  | 2, _ => pm_t5 60 rfl
  | 3, _ => pm_t5 62 rfl
  | 4, _ => pm_t5 64 rfl
  | 5, _ => pm_t5 66 rfl
  | 6, _ => pm_t5 68 rfl
  | 7, _ => pm_t5 70 rfl
  | 8, _ => pm_t5 72 rfl
  | 9, _ => pm_t5 74 rfl
  | 10, _ => pm_t5 76 rfl
  | 11, _ => pm_t5 78 rfl
  | 12, _ => pm_t5 80 rfl
  | 13, _ => pm_t5 82 rfl
  | 14, _ => pm_t5 84 rfl
  | 15, _ => pm_t5 86 rfl
  | 16, _ => pm_t5 88 rfl
  | 17, _ => pm_t5 90 rfl
  | 18, _ => pm_t5 92 rfl
  | 19, _ => pm_t5 94 rfl
  | 20, _ => pm_t5 96 rfl
  | 21, _ => pm_t5 98 rfl
  | 22, _ => pm_t5 100 rfl
  | 23, _ => pm_t5 102 rfl
  | 24, _ => pm_t5 104 rfl
  | 25, _ => pm_t5 106 rfl
  | 26, _ => pm_t5 108 rfl
  | 27, _ => pm_t5 110 rfl
  | 28, _ => pm_t5 112 rfl
  | 29, _ => pm_t5 114 rfl
  | 30, _ => pm_t5 116 rfl
  | k + 31, hk => absurd hk (by omega)
/-! rules over the memory: fields, arrays -/
def pm_uI (mem : pm_M) (t i k : Nat) (x : Int32) : pm_M := (fun t' i' k' => if t' = t ∧ i' = i ∧ k' = k then x else mem.1 t' i' k', mem.2.1, mem.2.2)
def pm_uJ (mem : pm_M) (t i k : Nat) (x : Int64) : pm_M := (mem.1, fun t' i' k' => if t' = t ∧ i' = i ∧ k' = k then x else mem.2.1 t' i' k', mem.2.2)
def pm_uP (mem : pm_M) (t i k : Nat) (x : Option Nat) : pm_M := (mem.1, mem.2.1, fun t' i' k' => if t' = t ∧ i' = i ∧ k' = k then x else mem.2.2 t' i' k')
theorem pm_ce_congr {ad : pm_A} {cs : Nat → ClassId} {mem mem' : pm_M} {t i : Nat} (h1 : mem'.1 t i = mem.1 t i) (h2 : mem'.2.1 t i = mem.2.1 t i) (h3 : mem'.2.2 t i = mem.2.2 t i) : pm_ce ad cs mem' t i = pm_ce ad cs mem t i := by
  unfold pm_ce pm_fs pm_fv
  rw [h1, h2, h3]
/-- the memories agree but at one cell -/
def pm_but (mem mem' : pm_M) (t i : Nat) : Prop := ∀ t' i', ¬ (t' = t ∧ i' = i) → mem'.1 t' i' = mem.1 t' i' ∧ mem'.2.1 t' i' = mem.2.1 t' i' ∧ mem'.2.2 t' i' = mem.2.2 t' i'
theorem pm_but_I (mem : pm_M) (t i k : Nat) (x : Int32) : pm_but mem (pm_uI mem t i k x) t i := fun t' i' h => ⟨funext fun k' => if_neg (fun z => h ⟨z.1, z.2.1⟩), rfl, rfl⟩
theorem pm_but_J (mem : pm_M) (t i k : Nat) (x : Int64) : pm_but mem (pm_uJ mem t i k x) t i := fun t' i' h => ⟨rfl, funext fun k' => if_neg (fun z => h ⟨z.1, z.2.1⟩), rfl⟩
theorem pm_but_P (mem : pm_M) (t i k : Nat) (x : Option Nat) : pm_but mem (pm_uP mem t i k x) t i := fun t' i' h => ⟨rfl, rfl, funext fun k' => if_neg (fun z => h ⟨z.1, z.2.1⟩)⟩
def pm_val (mem : pm_M) : Prop := ∀ t i k j, i < pm_tn t → (pm_fk t k).1 = 3 → mem.2.2 t i k = some j → j < pm_tn (pm_fk t k).2.1
section PMH
variable {l : Launch} {S0 : State} {a0 : Array Value} {ad : pm_A} {D : va_G} {cs : Nat → ClassId} {mem mem' : pm_M} {H H1 : Heap} {t i : Nat}
theorem pm_H.upd (hG : pm_G l S0 a0 ad D cs) (hH : pm_H ad D cs mem H) (hi : i < pm_tn t) (hb : pm_but mem mem' t i) (hv : pm_val mem') (he : va_at D vwCl (ad t i, pm_ce ad cs mem' t i) H1) (ho : ∀ q : Nat, q ≠ ad t i → H1[q]? = H[q]?) : pm_H ad D cs mem' H1 := by
  refine ⟨fun t' i' hi' => ?_, hv⟩
  by_cases h : t' = t ∧ i' = i
  · obtain ⟨rfl, rfl⟩ := h
    exact he
  · obtain ⟨h1, h2, h3⟩ := hb t' i' h
    rw [pm_ce_congr h1 h2 h3]
    exact (hH.1 t' i' hi').kept (ho _ (fun z => h (hG.2.2.2.1 t' i' t i hi' hi z)))
end PMH
theorem pm_tn_mem {t i : Nat} (h : i < pm_tn t) : (t, pm_tn t) ∈ pm_tags := by
  unfold pm_tn at h ⊢
  cases hl : pm_tags.lookup t with
  | none => rw [hl] at h; exact absurd h (Nat.not_lt_zero _)
  | some n =>
    have : ∀ (L : List (Nat × Nat)) (n : Nat), L.lookup t = some n → (t, n) ∈ L := by
      intro L
      induction L with
      | nil => intro n h; cases h
      | cons a r ih =>
        intro n h
        obtain ⟨x, y⟩ := a
        rw [List.lookup_cons] at h
        by_cases e : t == x
        · rw [e] at h
          have e1 : t = x := by simpa using e
          cases h
          rw [e1]; exact List.mem_cons_self
        · have e2 : (t == x) = false := by simpa using e
          rw [e2] at h
          exact List.mem_cons_of_mem _ (ih n h)
    exact this _ _ hl
theorem pm_tab1 : ∀ q ∈ pm_tags, ∀ k, k < 31 → (pm_fk q.1 k).1 = 2 → ∀ i, i < q.2 → i + (pm_fk q.1 k).2.2 < pm_tn (pm_fk q.1 k).2.1 := by decide +kernel
theorem pm_tab2 : ∀ q ∈ pm_tags, q.1 / 10000000 = 5 → ∀ i, i < q.2 → ∀ j, j < q.1 / 1000 % 10000 → q.1 / 1000 % 10000 * i + j < pm_tn (pm_rt q.1) := by decide +kernel
theorem pm_tab3 : ∀ ci, ci < 10 → pm_fN ci ≤ 31 := by decide +kernel
/-- a class: its fields' words stand in the tables, types and names as they must -/
theorem pm_cls : ∀ (ci : Nat) (q : vw_C), vwCl[ci]? = some q → pm_fN ci = q.2.2 ∧ (∀ w ∈ u_ws q.1 q.2.1 q.2.2, w ∈ lw_tbl) ∧ ∃ ty : Nat → FieldType, (∀ k, k < q.2.2 → parseFieldDescriptor (q.2.1 k).2.2.1 = some (ty k)) ∧ ∀ a, a < q.2.2 → ∀ b, b < q.2.2 → a ≠ b → (q.2.1 a).2.1 ≠ (q.2.1 b).2.1 := by
  intro ci q h
  match ci, h with
  | 0, h => cases h; exact ⟨rfl, pm_uws pm_uw0, tyX0, tyX0_ok, nmX0⟩
  | 1, h => cases h; exact ⟨rfl, pm_uws pm_uw1, tyX1, tyX1_ok, nmX1⟩
  | 2, h => cases h; exact ⟨rfl, pm_uws pm_uw2, tyX2, tyX2_ok, nmX2⟩
  | 3, h => cases h; exact ⟨rfl, pm_uws pm_uw3, tyX3, tyX3_ok, nmX3⟩
  | 4, h => cases h; exact ⟨rfl, pm_uws pm_uw4, tyX4, tyX4_ok, nmX4⟩
  | 5, h => cases h; exact ⟨rfl, pm_uws pm_uw5, tyX5, tyX5_ok, nmX5⟩
  | 6, h => cases h; exact ⟨rfl, pm_uws pm_uw6, tyX6, tyX6_ok, nmX6⟩
  | 7, h => cases h; exact ⟨rfl, pm_uws pm_uw7, tyX7, tyX7_ok, nmX7⟩
  | 8, h => cases h; exact ⟨rfl, pm_uws pm_uw8, tyX8, tyX8_ok, nmX8⟩
  | 9, h => cases h; exact ⟨rfl, pm_uws pm_uw9, tyX9, tyX9_ok, nmX9⟩
  | ci + 10, h => simp [vwCl] at h
theorem pm_uw {q : vw_C} {w : Cond} (h : w ∈ u_ws q.1 q.2.1 q.2.2) : goodWord w = true := by
  obtain ⟨k, -, hk⟩ := List.mem_map.mp h
  rw [← hk]
  unfold u_lay
  split <;> rfl
/-- a field by an entry of a class's pool: of ints, of longs, a reference that stays, one that changes -/
def pm_FI (own : String) (idx t k : Nat) : Prop := t / 10000000 = 1 ∧ pm_fk t k = (0, 0, 0) ∧ ∃ q : vw_C, vwCl[t / 1000 % 10000]? = some q ∧ k < q.2.2 ∧ (q.2.1 k).2.2 = ("I", false) ∧ Cond.fieldLink own idx (q.2.1 k).1 (q.2.1 k).2.1 (q.2.1 k).2.2.1 ∈ lw_tbl
def pm_FJ (own : String) (idx t k : Nat) : Prop := t / 10000000 = 1 ∧ pm_fk t k = (1, 0, 0) ∧ ∃ q : vw_C, vwCl[t / 1000 % 10000]? = some q ∧ k < q.2.2 ∧ (q.2.1 k).2.2 = ("J", false) ∧ Cond.fieldLink own idx (q.2.1 k).1 (q.2.1 k).2.1 (q.2.1 k).2.2.1 ∈ lw_tbl
def pm_FR (own : String) (idx t k t2 o2 : Nat) : Prop := t / 10000000 = 1 ∧ pm_fk t k = (2, t2, o2) ∧ ∃ q : vw_C, vwCl[t / 1000 % 10000]? = some q ∧ k < q.2.2 ∧ Cond.fieldLink own idx (q.2.1 k).1 (q.2.1 k).2.1 (q.2.1 k).2.2.1 ∈ lw_tbl
def pm_FP (own : String) (idx t k t2 : Nat) : Prop := t / 10000000 = 1 ∧ pm_fk t k = (3, t2, 0) ∧ ∃ q : vw_C, vwCl[t / 1000 % 10000]? = some q ∧ k < q.2.2 ∧ ((q.2.1 k).2.2.2 = false ∧ ∃ C, parseFieldDescriptor (q.2.1 k).2.2.1 = some (.object C)) ∧ Cond.fieldLink own idx (q.2.1 k).1 (q.2.1 k).2.1 (q.2.1 k).2.2.1 ∈ lw_tbl
section PRH
variable {cc : ByteArray} {own : String} {nL fr lo pc : Nat} {ls : List (Option pm_v)} {st : List pm_v} {mem : pm_M} {X : Nat → List (Option pm_v) → List pm_v → pm_M → Prop}
theorem pm_fs_get {ad : pm_A} {t i k : Nat} (hk : k < pm_fN (t / 1000 % 10000)) : (pm_fs ad mem t i)[k]? = some (pm_mv ad (pm_fv mem t i k)) := by
  unfold pm_fs
  rw [List.getElem?_map, List.getElem?_range hk]
  rfl
theorem pm_ok_lt {t i d : Nat} (h1 : t / 10000000 = d) (h0 : ¬ d = 0) (h : pm_ok (pR t i)) : i < pm_tn t := by
  rcases h with h | h
  · exfalso
    have h : t = 99 := h
    rw [h] at h1
    exact h0 h1.symm
  · exact h
theorem pr_getf {idx t i k : Nat} {v : pm_v} {w : vw_C} (q : Nat) (hd : decode cc pc = .ok (.getfield idx, 3)) (h1 : t / 10000000 = 1) (hw : vwCl[t / 1000 % 10000]? = some w) (hk : k < w.2.2) (hlk : Cond.fieldLink own idx (w.2.1 k).1 (w.2.1 k).2.1 (w.2.1 k).2.2.1 ∈ lw_tbl)
    (hv : pm_fv mem t i k = v) (hok : i < pm_tn t → pm_val mem → pm_ok v) (hq : pc + 3 = q) (kk : PR cc own nL fr lo q ls (v :: st) mem X) : PR cc own nL fr lo pc ls (pR t i :: st) mem X := by
  subst hq
  refine PR.step1 (fun {p l e R s m args below meth c cells slots Q S0 a0 ad D cs} H locs la hC hl hs hH hS kk => ?_) kk
  obtain ⟨hx, hb, -, hown, hG, hD, -⟩ := hC
  have hi := pm_ok_lt h1 (by decide) hs.1
  obtain ⟨hN, hu, -⟩ := pm_cls _ _ hw
  have hP : va_P D vwCl [(ad t i, .inr (t / 1000 % 10000, pm_fs ad mem t i))] H := by
    intro n z hz
    have hn : n = 0 := by
      have := (List.getElem?_eq_some_iff.mp hz).1
      simpa using this
    subst hn
    cases hz
    have := hH.1 t i hi
    unfold pm_ce at this
    rw [if_pos h1] at this
    exact this
  refine va_get (D := D) (cl := vwCl) (ci := t / 1000 % 10000) (C := w.1) (T := w.2.1) (N := w.2.2) (v := pm_mv ad v) (Ts := u_ws w.1 w.2.1 w.2.2) hx hb (fun w' hw' => pm_word hG hD _ (pm_uw hw') (hu w' hw')) (fun _ h => h) hown (va_K.moved hD.1.alike hG.2.2.1) hP 0 rfl hw k hk (pm_word hG hD _ rfl hlk) (fun _ h => h) ?_ hd (kk la hl ⟨hok hi hH.2, hs.2⟩)
  rw [pm_fs_get (by rw [hN]; exact hk), hv]
theorem pr_getI {idx t i k : Nat} (q : Nat) (hd : decode cc pc = .ok (.getfield idx, 3)) (hf : pm_FI own idx t k) (hq : pc + 3 = q) (kk : PR cc own nL fr lo q ls (pI (mem.1 t i k) :: st) mem X) : PR cc own nL fr lo pc ls (pR t i :: st) mem X := by
  obtain ⟨h1, h2, w, hw, hk, -, hlk⟩ := hf
  exact pr_getf (v := pI (mem.1 t i k)) q hd h1 hw hk hlk (by simp [pm_fv, h2]) (fun _ _ => trivial) hq kk
theorem pr_getJ {idx t i k : Nat} (q : Nat) (hd : decode cc pc = .ok (.getfield idx, 3)) (hf : pm_FJ own idx t k) (hq : pc + 3 = q) (kk : PR cc own nL fr lo q ls (pJ (mem.2.1 t i k) :: st) mem X) : PR cc own nL fr lo pc ls (pR t i :: st) mem X := by
  obtain ⟨h1, h2, w, hw, hk, -, hlk⟩ := hf
  exact pr_getf (v := pJ (mem.2.1 t i k)) q hd h1 hw hk hlk (by simp [pm_fv, h2]) (fun _ _ => trivial) hq kk
theorem pr_getR {idx t i k t2 o2 : Nat} (q : Nat) (hd : decode cc pc = .ok (.getfield idx, 3)) (hf : pm_FR own idx t k t2 o2) (hq : pc + 3 = q) (kk : PR cc own nL fr lo q ls (pR t2 (i + o2) :: st) mem X) : PR cc own nL fr lo pc ls (pR t i :: st) mem X := by
  obtain ⟨h1, h2, w, hw, hk, hlk⟩ := hf
  refine pr_getf q hd h1 hw hk hlk (v := pR t2 (i + o2)) (by simp [pm_fv, h2]) (fun hi _ => Or.inr ?_) hq kk
  have hc : t / 1000 % 10000 < 10 := by
    have := (List.getElem?_eq_some_iff.mp hw).1
    simpa [vwCl] using this
  have hN := (pm_cls _ _ hw).1
  have := pm_tab1 _ (pm_tn_mem hi) k (by have := pm_tab3 _ hc; omega) (by rw [h2]) i hi
  rw [h2] at this
  exact this
theorem pr_getR0 {idx t i k t2 : Nat} (q : Nat) (hd : decode cc pc = .ok (.getfield idx, 3)) (hf : pm_FR own idx t k t2 0) (hq : pc + 3 = q) (kk : PR cc own nL fr lo q ls (pR t2 i :: st) mem X) : PR cc own nL fr lo pc ls (pR t i :: st) mem X := pr_getR q hd hf hq kk
theorem pr_getRo {idx t i k t2 o2 : Nat} (j q : Nat) (hd : decode cc pc = .ok (.getfield idx, 3)) (hf : pm_FR own idx t k t2 o2) (hj : i + o2 = j) (hq : pc + 3 = q) (kk : PR cc own nL fr lo q ls (pR t2 j :: st) mem X) : PR cc own nL fr lo pc ls (pR t i :: st) mem X := by
  subst hj
  exact pr_getR q hd hf hq kk
theorem pr_getP {idx t i k t2 : Nat} (j : Nat) (q : Nat) (hd : decode cc pc = .ok (.getfield idx, 3)) (hf : pm_FP own idx t k t2) (hj : mem.2.2 t i k = some j) (hq : pc + 3 = q) (kk : PR cc own nL fr lo q ls (pR t2 j :: st) mem X) : PR cc own nL fr lo pc ls (pR t i :: st) mem X := by
  obtain ⟨h1, h2, w, hw, hk, -, hlk⟩ := hf
  refine pr_getf q hd h1 hw hk hlk (v := pR t2 j) (by simp [pm_fv, h2, hj]) (fun hi hv => Or.inr ?_) hq kk
  have := hv t i k j hi (by rw [h2]) hj
  rw [h2] at this
  exact this
/-- a step that changes the memory at one cell -/
theorem PR.stepM {q t i : Nat} {st' : List pm_v} {mem' : pm_M} (hb : pm_but mem mem' t i)
    (h : ∀ {p : Program} {l : Launch} {e : Env} {R : Room} {s : State} {m : MethodId} {args : Array Value} {below : List Frame} {meth : Method} {c : Code} {cells slots : Nat} {Q : State → Prop} {S0 : State} {a0 : Array Value} {ad : pm_A} {D : va_G} {cs : Nat → ClassId} (H : Heap) (locs : List Loc) (la : Array Slot),
      pm_C cc own nL fr lo p l R s m c cells slots S0 a0 ad D cs → pm_oks st → pm_H ad D cs mem H →
      (∀ (H1 : Heap) (k : Nat), pm_oks st' → i < pm_tn t → pm_val mem' → va_at D vwCl (ad t i, pm_ce ad cs mem' t i) H1 → H1.size = H.size → (∀ q : Nat, q ≠ ad t i → H1[q]? = H[q]?) → W p l e R s m args below meth c H1 (locs ++ [⟨ad t i, k⟩]) cells slots Q (F0 m q la (st'.map (pm_mv ad)))) →
      W p l e R s m args below meth c H locs cells slots Q (F0 m pc la (st.map (pm_mv ad))))
    (k : PR cc own nL fr lo q ls st' mem' X) : PR cc own nL fr lo pc ls st mem X := by
  intro p l e R s m args below meth c cells slots Q S0 a0 ad D cs hC hK H locs la hl hs hH hS
  refine h H locs la hC hs hH (fun H1 k1 hs' hi hv he hz ho => ?_)
  have hG := hC.2.2.2.2.1
  exact k p l e R s m args below meth c cells slots Q S0 a0 ad D cs hC hK H1 _ la hl hs' (hH.upd hG hi hb hv he ho) (hS.put hz ho (hG.2.2.2.2.1 t i hi))
theorem pm_objP {ad : pm_A} {D : va_G} {cs : Nat → ClassId} {H : Heap} {t i : Nat} (h1 : t / 10000000 = 1) (hi : i < pm_tn t) (hH : pm_H ad D cs mem H) : va_at D vwCl (ad t i, .inr (t / 1000 % 10000, pm_fs ad mem t i)) H := by
  have := hH.1 t i hi
  unfold pm_ce at this
  rw [if_pos h1] at this
  exact this
/-- a field is written: the memory behind it has the value there, and nothing else is other -/
theorem pr_putf {idx t i k : Nat} {v : pm_v} {w : vw_C} {mem' : pm_M} {ty : FieldType} (q : Nat) (hd : decode cc pc = .ok (.putfield idx, 3)) (h1 : t / 10000000 = 1) (hw : vwCl[t / 1000 % 10000]? = some w) (hk : k < w.2.2) (hlk : Cond.fieldLink own idx (w.2.1 k).1 (w.2.1 k).2.1 (w.2.1 k).2.2.1 ∈ lw_tbl)
    (hfin : (w.2.1 k).2.2.2 = false) (hdesc : parseFieldDescriptor (w.2.1 k).2.2.1 = some ty) (hnar : ∀ ad, narrow ty (pm_mv ad v) = pm_mv ad v) (hfit : ∀ ad, fits ty (pm_mv ad v) = true)
    (hb : pm_but mem mem' t i) (hv : pm_fv mem' t i k = v) (ho : ∀ j, ¬ j = k → pm_fv mem' t i j = pm_fv mem t i j) (hval : i < pm_tn t → pm_ok v → pm_val mem → pm_val mem') (hq : pc + 3 = q) (kk : PR cc own nL fr lo q ls st mem' X) : PR cc own nL fr lo pc ls (v :: pR t i :: st) mem X := by
  subst hq
  refine PR.stepM hb (fun {p l e R s m args below meth c cells slots Q S0 a0 ad D cs} H locs la hC hs hH kk => ?_) kk
  obtain ⟨hx, hb2, -, hown, hG, hD, -⟩ := hC
  have hi := pm_ok_lt h1 (by decide) hs.2.1
  obtain ⟨hN, hu, ty0, hty, hnm⟩ := pm_cls _ _ hw
  have hts : ∀ z ∈ u_ws w.1 w.2.1 w.2.2, z.before args s = true := fun w' hw' => pm_word hG hD _ (pm_uw hw') (hu w' hw')
  have hK : va_K D vwCl [(cs 0, .int), (cs 1, .byte), (cs 2, .long), (cs 3, .array .int)] s := va_K.moved hD.1.alike hG.2.2.1
  have hap := va_apart (own := own) hts (fun _ h => h) ty0 hty hnm hK hw
  obtain ⟨r, hr1, cell, q1, q2, q3, q4⟩ := pm_objP (cs := cs) h1 hi hH
  have hr : r = w := Option.some.inj (hr1.symm.trans hw)
  subst hr
  obtain ⟨hS, hfc, kC, hkC, hkind⟩ := hK.1 _ _ hw
  obtain ⟨cf, kf, fi, f, hfi, hsl⟩ := hS k hk
  have hlay := hts _ (u_in_lay hk)
  unfold u_lay at hlay
  rw [if_neg (by rw [hfin]; decide)] at hlay
  have hst := (u_facts hfc hkC (u_lays hts (fun _ h => h) hk) hfi).1
  have h6 := u_store hfc hkC hkind hlay hfi hdesc (hnar ad) (hfit ad)
  refine W.putK hx hb2 (f := f) ⟨hown, pm_word hG hD _ rfl hlk, ⟨_, _, _, hfi⟩, hst⟩ (by rw [q2]; exact h6) q1 q3 (by rw [hsl]; exact k2_hasslot (q4 k hk)) rfl rfl hd fun H' e1 e2 e3 => ?_
  rw [hsl] at e1 ⊢
  refine kk H' _ hs.2.2 hi (hval hi hs.1 hH.2) ?_ e2 e3
  unfold pm_ce
  rw [if_pos h1]
  refine ⟨_, hw, t_OB.to (V := updV (vp_V (pm_fs ad mem t i)) k (pm_mv ad v)) ⟨_, e1, q2, q3, t_set q4 hap hk (pm_mv ad v)⟩ (fun j hj => ?_)⟩
  have hj2 : j < pm_fN (t / 1000 % 10000) := by rw [hN]; exact hj
  unfold updV vp_V
  rw [List.getD_eq_getElem?_getD, List.getD_eq_getElem?_getD, pm_fs_get (mem := mem) hj2, pm_fs_get (mem := mem') hj2]
  by_cases e : j = k
  · subst e
    rw [if_pos rfl, hv]
    rfl
  · rw [if_neg e, ho j e]
theorem pr_putI {idx t i k : Nat} {x : Int32} (q : Nat) (hd : decode cc pc = .ok (.putfield idx, 3)) (hf : pm_FI own idx t k) (hq : pc + 3 = q) (kk : PR cc own nL fr lo q ls st (pm_uI mem t i k x) X) : PR cc own nL fr lo pc ls (pI x :: pR t i :: st) mem X := by
  obtain ⟨h1, h2, w, hw, hk, hde, hlk⟩ := hf
  refine pr_putf (ty := .int) q hd h1 hw hk hlk (by rw [hde]) (by rw [hde]; decide +kernel) (fun _ => rfl) (fun _ => rfl) (pm_but_I mem t i k x) (by simp [pm_fv, h2, pm_uI]) (fun j hj => ?_) (fun _ _ h => h) hq kk
  simp [pm_fv, pm_uI, hj]
theorem pr_putJ {idx t i k : Nat} {x : Int64} (q : Nat) (hd : decode cc pc = .ok (.putfield idx, 3)) (hf : pm_FJ own idx t k) (hq : pc + 3 = q) (kk : PR cc own nL fr lo q ls st (pm_uJ mem t i k x) X) : PR cc own nL fr lo pc ls (pJ x :: pR t i :: st) mem X := by
  obtain ⟨h1, h2, w, hw, hk, hde, hlk⟩ := hf
  refine pr_putf (ty := .long) q hd h1 hw hk hlk (by rw [hde]) (by rw [hde]; decide +kernel) (fun _ => rfl) (fun _ => rfl) (pm_but_J mem t i k x) (by simp [pm_fv, h2, pm_uJ]) (fun j hj => ?_) (fun _ _ h => h) hq kk
  simp [pm_fv, pm_uJ, hj]
theorem pr_putP {idx t i k t2 j : Nat} (q : Nat) (hd : decode cc pc = .ok (.putfield idx, 3)) (hf : pm_FP own idx t k t2) (h99 : (t2 == 99) = false) (hq : pc + 3 = q) (kk : PR cc own nL fr lo q ls st (pm_uP mem t i k (some j)) X) : PR cc own nL fr lo pc ls (pR t2 j :: pR t i :: st) mem X := by
  obtain ⟨h1, h2, w, hw, hk, ⟨hde, C, hC⟩, hlk⟩ := hf
  refine pr_putf (v := pR t2 j) (ty := .object C) q hd h1 hw hk hlk hde hC (fun _ => rfl) (fun _ => rfl) (pm_but_P mem t i k (some j)) (by simp [pm_fv, h2, pm_uP]) (fun n hn => ?_) (fun hi hok hv => ?_) hq kk
  · simp [pm_fv, pm_uP, hn]
  · intro t' i' k' j' hi' hk' hj'
    unfold pm_uP at hj'
    by_cases z : t' = t ∧ i' = i ∧ k' = k
    · obtain ⟨rfl, rfl, rfl⟩ := z
      simp at hj'
      subst hj'
      rw [h2]
      rcases hok with e | e
      · have e : t2 = 99 := e
        rw [e] at h99
        cases h99
      · exact e
    · simp only [if_neg z] at hj'
      exact hv t' i' k' j' hi' hk' hj'
end PRH
