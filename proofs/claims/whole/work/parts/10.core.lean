/-! pure values, the typed memory, its layout (made by wip/whole/gen_core.py) -/
def pm_tags : List (Nat × Nat) := [(10000900, 2), (10001901, 1), (10002902, 2), (10003903, 2), (10004904, 1), (10005905, 1), (10006906, 1), (10007907, 1), (10008908, 1), (10009909, 1), (20012006, 2), (20012007, 2), (20004008, 2), (20004009, 2), (20016010, 2), (20016011, 2), (20016012, 2), (20016013, 2), (20016014, 2), (20016015, 2), (20016016, 2), (20200017, 2), (20200018, 2), (20012040, 1), (20012041, 1), (20012042, 1), (20016084, 2), (20016085, 2), (20016086, 2), (20016087, 2), (50016088, 2), (20016488, 32), (20016089, 2), (20016090, 2), (20016091, 2), (50016092, 2), (20016492, 32), (20016094, 2), (20016095, 2), (20016120, 2), (20016121, 2), (40016122, 2), (20003166, 1), (20016201, 1), (20016202, 1), (20016203, 1), (20016204, 1), (50016205, 1), (20016605, 16), (50016206, 1), (20016606, 16), (50012207, 1), (20012607, 12), (50016208, 1), (20012608, 16), (20016209, 1), (20016210, 1), (20016211, 1), (20288213, 1), (20288214, 1), (20288215, 1), (30840280, 1), (20840361, 1), (20869371, 1), (20869372, 1), (20432373, 1), (20017375, 1), (20017376, 1), (20016377, 1), (20016378, 1), (20016379, 1), (20017380, 1), (20289381, 1), (20017382, 1), (20017383, 1), (40017384, 1), (40017385, 1), (21000389, 1), (40001990, 1)]
def pm_tn (t : Nat) : Nat := (pm_tags.lookup t).getD 0
def pm_fN (ci : Nat) : Nat := [19, 4, 16, 4, 12, 16, 6, 2, 9, 31].getD ci 0
def pm_fk0 : List (Nat × Nat × Nat) := [(0, 0, 0), (0, 0, 0), (0, 0, 0), (0, 0, 0), (0, 0, 0), (0, 0, 0), (2, 20012006, 0), (2, 20012007, 0), (2, 20004008, 0), (2, 20004009, 0), (2, 20016010, 0), (2, 20016011, 0), (2, 20016012, 0), (2, 20016013, 0), (2, 20016014, 0), (2, 20016015, 0), (2, 20016016, 0), (2, 20200017, 0), (2, 20200018, 0)]
def pm_fk1 : List (Nat × Nat × Nat) := [(2, 20012040, 0), (2, 20012041, 0), (2, 20012042, 0), (0, 0, 0)]
def pm_fk2 : List (Nat × Nat × Nat) := [(2, 10003903, 0), (3, 10000900, 0), (3, 10005905, 0), (0, 0, 0), (2, 20016084, 0), (2, 20016085, 0), (2, 20016086, 0), (2, 20016087, 0), (2, 50016088, 0), (2, 20016089, 0), (2, 20016090, 0), (2, 20016091, 0), (2, 50016092, 0), (0, 0, 0), (2, 20016094, 0), (2, 20016095, 0)]
def pm_fk3 : List (Nat × Nat × Nat) := [(2, 20016120, 0), (2, 20016121, 0), (2, 40016122, 0), (0, 0, 0)]
def pm_fk4 : List (Nat × Nat × Nat) := [(2, 10006906, 0), (3, 10000900, 0), (0, 0, 0), (0, 0, 0), (0, 0, 0), (0, 0, 0), (2, 20003166, 0), (0, 0, 0), (0, 0, 0), (0, 0, 0), (0, 0, 0), (0, 0, 0)]
def pm_fk5 : List (Nat × Nat × Nat) := [(3, 10000900, 0), (2, 20016201, 0), (2, 20016202, 0), (2, 20016203, 0), (2, 20016204, 0), (2, 50016205, 0), (2, 50016206, 0), (2, 50012207, 0), (2, 50016208, 0), (2, 20016209, 0), (2, 20016210, 0), (2, 20016211, 0), (0, 0, 0), (2, 20288213, 0), (2, 20288214, 0), (2, 20288215, 0)]
def pm_fk6 : List (Nat × Nat × Nat) := [(2, 10007907, 0), (0, 0, 0), (0, 0, 0), (0, 0, 0), (0, 0, 0), (0, 0, 0)]
def pm_fk7 : List (Nat × Nat × Nat) := [(2, 30840280, 0), (0, 0, 0)]
def pm_fk8 : List (Nat × Nat × Nat) := [(2, 10007907, 0), (2, 10004904, 0), (2, 10005905, 0), (2, 10002902, 0), (2, 10002902, 1), (2, 10001901, 0), (3, 10000900, 0), (3, 10000900, 0), (0, 0, 0)]
def pm_fk9 : List (Nat × Nat × Nat) := [(0, 0, 0), (2, 20840361, 0), (0, 0, 0), (0, 0, 0), (0, 0, 0), (0, 0, 0), (0, 0, 0), (0, 0, 0), (0, 0, 0), (0, 0, 0), (1, 0, 0), (2, 20869371, 0), (2, 20869372, 0), (2, 20432373, 0), (0, 0, 0), (2, 20017375, 0), (2, 20017376, 0), (2, 20016377, 0), (2, 20016378, 0), (2, 20016379, 0), (2, 20017380, 0), (2, 20289381, 0), (2, 20017382, 0), (2, 20017383, 0), (2, 40017384, 0), (2, 40017385, 0), (0, 0, 0), (0, 0, 0), (0, 0, 0), (2, 21000389, 0), (0, 0, 0)]
def pm_fk (t k : Nat) : Nat × Nat × Nat := (match t with
  | 10000900 => pm_fk0
  | 10001901 => pm_fk1
  | 10002902 => pm_fk2
  | 10003903 => pm_fk3
  | 10004904 => pm_fk4
  | 10005905 => pm_fk5
  | 10006906 => pm_fk6
  | 10007907 => pm_fk7
  | 10008908 => pm_fk8
  | 10009909 => pm_fk9
  | _ => []).getD k (9, 0, 0)
def pm_rt (t : Nat) : Nat := match t with
  | 50016088 => 20016488
  | 50016092 => 20016492
  | 50016205 => 20016605
  | 50016206 => 20016606
  | 50012207 => 20012607
  | 50016208 => 20012608
  | _ => 0
abbrev pm_v : Type := Int32 ⊕ (Int64 ⊕ Option (Nat × Nat))
abbrev pI (x : Int32) : pm_v := Sum.inl x
abbrev pJ (x : Int64) : pm_v := Sum.inr (Sum.inl x)
abbrev pR (t i : Nat) : pm_v := Sum.inr (Sum.inr (some (t, i)))
abbrev pN : pm_v := Sum.inr (Sum.inr none)
abbrev pm_M : Type := (Nat → Nat → Nat → Int32) × (Nat → Nat → Nat → Int64) × (Nat → Nat → Nat → Option Nat)
abbrev pm_A : Type := Nat → Nat → Nat
def pm_mv (ad : pm_A) (v : pm_v) : Value := match v with
  | .inl x => .int x
  | .inr (.inl x) => .long x
  | .inr (.inr none) => .null
  | .inr (.inr (some q)) => .ref (ad q.1 q.2)
/-- tag 99: String constants -/
def pm_ok (v : pm_v) : Prop := match v with
  | .inr (.inr (some q)) => q.1 = 99 ∨ q.2 < pm_tn q.1
  | _ => True
def pm_oks : List pm_v → Prop
  | [] => True
  | v :: r => pm_ok v ∧ pm_oks r
def pm_cat (v : pm_v) : Nat := match v with
  | .inr (.inl _) => 2
  | _ => 1
theorem pm_mv_cat (ad : pm_A) (v : pm_v) : (pm_mv ad v).category = pm_cat v := by rcases v with x | x | _ | q <;> rfl
theorem pm_oks_app {a b : List pm_v} (h : pm_oks (a ++ b)) : pm_oks a ∧ pm_oks b := by
  induction a with
  | nil => exact ⟨trivial, h⟩
  | cons v r ih => exact ⟨⟨h.1, (ih h.2).1⟩, (ih h.2).2⟩
theorem pm_oks_join {a b : List pm_v} (h : pm_oks a) (h2 : pm_oks b) : pm_oks (a ++ b) := by
  induction a with
  | nil => exact h2
  | cons v r ih => exact ⟨h.1, ih h.2⟩
theorem pm_oks_rev {a : List pm_v} (h : pm_oks a) : pm_oks a.reverse := by
  induction a with
  | nil => exact trivial
  | cons v r ih => rw [List.reverse_cons]; exact pm_oks_join (ih h.2) ⟨h.1, trivial⟩
theorem pm_oks_mem {a : List pm_v} (h : pm_oks a) {v : pm_v} (hv : v ∈ a) : pm_ok v := by
  induction a with
  | nil => cases hv
  | cons u r ih =>
    rcases List.mem_cons.mp hv with e | e
    · rw [e]; exact h.1
    · exact ih h.2 e
/-- a field's value -/
def pm_fv (mem : pm_M) (t i k : Nat) : pm_v :=
  if (pm_fk t k).1 = 0 then pI (mem.1 t i k) else if (pm_fk t k).1 = 1 then pJ (mem.2.1 t i k)
  else if (pm_fk t k).1 = 2 then pR (pm_fk t k).2.1 (i + (pm_fk t k).2.2)
  else match mem.2.2 t i k with
    | none => pN
    | some j => pR (pm_fk t k).2.1 j
def pm_fs (ad : pm_A) (mem : pm_M) (t i : Nat) : List Value := (List.range (pm_fN (t / 1000 % 10000))).map (fun k => pm_mv ad (pm_fv mem t i k))
/-- a cell's contents -/
def pm_ce (ad : pm_A) (cs : Nat → ClassId) (mem : pm_M) (t i : Nat) : va_E :=
  if t / 10000000 = 1 then .inr (t / 1000 % 10000, pm_fs ad mem t i)
  else if t / 10000000 = 2 then .inl (cs 0, t / 1000 % 10000, .inl (mem.1 t i))
  else if t / 10000000 = 3 then .inl (cs 1, t / 1000 % 10000, .inl (mem.1 t i))
  else if t / 10000000 = 4 then .inl (cs 2, t / 1000 % 10000, .inr (.inl (mem.2.1 t i)))
  else .inl (cs 3, t / 1000 % 10000, .inr (.inr (.inr (.inr (fun j => some (ad (pm_rt t) (t / 1000 % 10000 * i + j)))))))
/-- the heap holds the memory -/
def pm_H (ad : pm_A) (D : va_G) (cs : Nat → ClassId) (mem : pm_M) (H : Heap) : Prop :=
  (∀ t i, i < pm_tn t → va_at D vwCl (ad t i, pm_ce ad cs mem t i) H) ∧ ∀ t i k j, i < pm_tn t → (pm_fk t k).1 = 3 → mem.2.2 t i k = some j → j < pm_tn (pm_fk t k).2.1
/-- String constants that the class loads: class, entry of its pool -/
def pm_str : List (String × Nat) := [(RX6, 63), (RX6, 69), (RX6, 71), (RX6, 73), (RX6, 75), (RX6, 77), (RX6, 79), (RX6, 81), (RX6, 83), (RX8, 165), (RX8, 194), (RX8, 196), (RX8, 225)]
/-- their texts -/
def pm_txt : List String := ["to", "on", "off", "none", "desk", "place", "truck", "load", "trip", "no such load", "nothing such of a load", "no such trip", "nothing such of a trip"]
def pm_len : List Nat := [2, 2, 3, 4, 4, 5, 5, 4, 4, 12, 22, 12, 22]
def pm_byt : List (List Int32) := [[116, 111], [111, 110], [111, 102, 102], [110, 111, 110, 101], [100, 101, 115, 107], [112, 108, 97, 99, 101], [116, 114, 117, 99, 107], [108, 111, 97, 100], [116, 114, 105, 112], [110, 111, 32, 115, 117, 99, 104, 32, 108, 111, 97, 100], [110, 111, 116, 104, 105, 110, 103, 32, 115, 117, 99, 104, 32, 111, 102, 32, 97, 32, 108, 111, 97, 100], [110, 111, 32, 115, 117, 99, 104, 32, 116, 114, 105, 112], [110, 111, 116, 104, 105, 110, 103, 32, 115, 117, 99, 104, 32, 111, 102, 32, 97, 32, 116, 114, 105, 112]]
/-- what the start holds of them and of the library's constants; 100 + k: the bytes of the k-th -/
def pm_SK (S0 : State) (ad : pm_A) : Prop :=
  vk_S 13 pm_len pm_byt (ad 99) (fun k => ad 99 (100 + k)) (fun q => S0.heap.size ≤ q) S0 S0.heap ∧
  (∀ (k : Nat) (q : String × Nat) (tx : String), pm_str[k]? = some q → pm_txt[k]? = some tx → vk_R q.1 q.2 tx (ad 99 k) S0) ∧
  va_Z "java/lang/String" "COMPACT_STRINGS" "Z" (.int 1) (fun q => S0.heap.size ≤ q) S0 S0.heap ∧
  (va_Z "jdk/internal/util/Preconditions" "SIOOBE_FORMATTER" "Ljava/util/function/BiFunction;" .null (fun q => S0.heap.size ≤ q) S0 S0.heap ∨ va_Z "jdk/internal/util/Preconditions" "SIOOBE_FORMATTER" "Ljava/util/function/BiFunction;" (.ref (ad 99 200)) (fun q => S0.heap.size ≤ q) S0 S0.heap)
/-- what holds of the law's start, once for all -/
def pm_G (l : Launch) (S0 : State) (a0 : Array Value) (ad : pm_A) (D : va_G) (cs : Nat → ClassId) : Prop :=
  l.flags = flags0 ∧ (∀ w ∈ lw_tbl, w.before a0 S0 = true) ∧ va_K D vwCl [(cs 0, .int), (cs 1, .byte), (cs 2, .long), (cs 3, .array .int)] S0 ∧
  (∀ t i t' i', i < pm_tn t → i' < pm_tn t' → ad t i = ad t' i' → t = t' ∧ i = i') ∧ (∀ t i, i < pm_tn t → S0.heap.size ≤ ad t i) ∧
  (Jvm.Cond.and given_1 narrow_1).before a0 S0 = true ∧ pm_SK S0 ad
/-- a later state: the tables are warmer, what was there at the start is as it was -/
def pm_D (S0 U : State) : Prop := S0.WarmedH U.vm ∧ S0.heap.size ≤ U.heap.size ∧ ∀ q : Nat, q < S0.heap.size → U.heap[q]? = S0.heap[q]?
theorem pm_D.rf (S0 : State) : pm_D S0 S0 := ⟨State.WarmedH.refl S0, Nat.le_refl _, fun _ _ => rfl⟩
theorem pm_word {l : Launch} {S0 U : State} {a0 : Array Value} {ad : pm_A} {D : va_G} {cs : Nat → ClassId} (hG : pm_G l S0 a0 ad D cs) (hD : pm_D S0 U) (a : Array Value) {w : Cond} (hg : goodWord w = true) (hw : w ∈ lw_tbl) : w.before a U = true :=
  word_at hD.1 (good_of_word hg) (hG.2.1 w hw)
theorem pm_D.step {S0 s U : State} (h : pm_D S0 s) (hW : s.WarmedH U.vm) (hs : s.heap.size ≤ U.heap.size) (hq : ∀ q : Nat, q < S0.heap.size → U.heap[q]? = s.heap[q]?) : pm_D S0 U :=
  ⟨h.1.trans hW, Nat.le_trans h.2.1 hs, fun q hl => (hq q hl).trans (h.2.2 q hl)⟩
/-- locals -/
def pm_L (ad : pm_A) (nL : Nat) (la : Array Slot) (ls : List (Option pm_v)) : Prop :=
  la.size = nL ∧ lv_wf la ∧ ls.length = nL ∧ ∀ (k : Nat) (v : pm_v), ls[k]? = some (some v) → la[k]? = some (.val (pm_mv ad v)) ∧ pm_ok v
section PMX
variable {p : Program} {l : Launch} {e : Env} {R : Room} {s : State} {m : MethodId} {args : Array Value} {below : List Frame} {meth : Method} {c : Code} {cells slots : Nat} {Q : State → Prop} {S0 : State} {a0 : Array Value} {ad : pm_A} {D : va_G} {cs : Nat → ClassId}
/-- a method's surroundings -/
def pm_C (cc : ByteArray) (own : String) (nL fr lo : Nat) (p : Program) (l : Launch) (R : Room) (s : State) (m : MethodId) (c : Code) (cells slots : Nat) (S0 : State) (a0 : Array Value) (ad : pm_A) (D : va_G) (cs : Nat → ClassId) : Prop :=
  p.tables.exec = Jvm.exec ∧ c.code = cc ∧ c.maxLocals = nL ∧ s.vm.findClass own = some m.cls ∧ pm_G l S0 a0 ad D cs ∧ pm_D S0 s ∧ fr ≤ R.frames ∧ lo ≤ R.locals ∧ cells ≤ R.cells ∧ slots ≤ R.slots
/-- the machine at a picture -/
def pm_W (nL : Nat) (p : Program) (l : Launch) (e : Env) (R : Room) (s : State) (m : MethodId) (args : Array Value) (below : List Frame) (meth : Method) (c : Code) (cells slots : Nat) (Q : State → Prop) (S0 : State) (ad : pm_A) (D : va_G) (cs : Nat → ClassId) (pc : Nat) (ls : List (Option pm_v)) (st : List pm_v) (mem : pm_M) : Prop :=
  ∀ (H : Heap) (locs : List Loc) (la : Array Slot), pm_L ad nL la ls → pm_oks st → pm_H ad D cs mem H → va_S (fun q => S0.heap.size ≤ q) s.heap H locs →
    W p l e R s m args below meth c H locs cells slots Q (F0 m pc la (st.map (pm_mv ad)))
end PMX
/-- from a picture the method comes to one of X -/
def PR (cc : ByteArray) (own : String) (nL fr lo : Nat) (pc : Nat) (ls : List (Option pm_v)) (st : List pm_v) (mem : pm_M) (X : Nat → List (Option pm_v) → List pm_v → pm_M → Prop) : Prop :=
  ∀ (p : Program) (l : Launch) (e : Env) (R : Room) (s : State) (m : MethodId) (args : Array Value) (below : List Frame) (meth : Method) (c : Code) (cells slots : Nat) (Q : State → Prop) (S0 : State) (a0 : Array Value) (ad : pm_A) (D : va_G) (cs : Nat → ClassId),
    pm_C cc own nL fr lo p l R s m c cells slots S0 a0 ad D cs →
    (∀ pc' ls' st' mem', X pc' ls' st' mem' → pm_W nL p l e R s m args below meth c cells slots Q S0 ad D cs pc' ls' st' mem') →
    pm_W nL p l e R s m args below meth c cells slots Q S0 ad D cs pc ls st mem
section PRS
variable {cc : ByteArray} {own : String} {nL fr lo pc : Nat} {ls : List (Option pm_v)} {st : List pm_v} {mem : pm_M} {X : Nat → List (Option pm_v) → List pm_v → pm_M → Prop}
theorem PR.done (h : X pc ls st mem) : PR cc own nL fr lo pc ls st mem X := fun _ _ _ _ _ _ _ _ _ _ _ _ _ _ _ _ _ _ _ hK => hK _ _ _ _ h
theorem PR.mono {Y : Nat → List (Option pm_v) → List pm_v → pm_M → Prop} (h : PR cc own nL fr lo pc ls st mem X) (hXY : ∀ a b c d, X a b c d → PR cc own nL fr lo a b c d Y) : PR cc own nL fr lo pc ls st mem Y :=
  fun p l e R s m args below meth c cells slots Q S0 a0 ad D cs hC hK => h p l e R s m args below meth c cells slots Q S0 a0 ad D cs hC (fun a b c' d hx => hXY a b c' d hx p l e R s m args below meth c cells slots Q S0 a0 ad D cs hC hK)
/-- one step, as W has it -/
theorem PR.step1 {q : Nat} {ls' : List (Option pm_v)} {st' : List pm_v}
    (h : ∀ {p : Program} {l : Launch} {e : Env} {R : Room} {s : State} {m : MethodId} {args : Array Value} {below : List Frame} {meth : Method} {c : Code} {cells slots : Nat} {Q : State → Prop} {S0 : State} {a0 : Array Value} {ad : pm_A} {D : va_G} {cs : Nat → ClassId} (H : Heap) (locs : List Loc) (la : Array Slot),
      pm_C cc own nL fr lo p l R s m c cells slots S0 a0 ad D cs → pm_L ad nL la ls → pm_oks st → pm_H ad D cs mem H → va_S (fun q => S0.heap.size ≤ q) s.heap H locs →
      (∀ la', pm_L ad nL la' ls' → pm_oks st' → W p l e R s m args below meth c H locs cells slots Q (F0 m q la' (st'.map (pm_mv ad)))) → W p l e R s m args below meth c H locs cells slots Q (F0 m pc la (st.map (pm_mv ad))))
    (k : PR cc own nL fr lo q ls' st' mem X) : PR cc own nL fr lo pc ls st mem X := by
  intro p l e R s m args below meth c cells slots Q S0 a0 ad D cs hC hK H locs la hl hs hH hS
  exact h H locs la hC hl hs hH hS (fun la' hl' hs' => k p l e R s m args below meth c cells slots Q S0 a0 ad D cs hC hK H locs la' hl' hs' hH hS)
end PRS
