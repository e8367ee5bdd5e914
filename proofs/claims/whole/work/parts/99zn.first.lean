/-! the first memory (made by wip/whole/gen99zn.py) -/
/-- where a row lies, counted from the law's start -/
def st_ixL (t : Nat) : List Nat := match t with
  | 10000900 => [181, 195]
  | 10001901 => [177]
  | 10002902 => [81, 129]
  | 10003903 => [82, 130]
  | 10004904 => [3]
  | 10005905 => [6]
  | 10006906 => [5]
  | 10007907 => [1]
  | 10008908 => [0]
  | 10009909 => [209]
  | 20003166 => [4]
  | 20004008 => [184, 198]
  | 20004009 => [185, 199]
  | 20012006 => [182, 196]
  | 20012007 => [183, 197]
  | 20012040 => [178]
  | 20012041 => [179]
  | 20012042 => [180]
  | 20012607 => [46, 47, 48, 49, 50, 51, 52, 53, 54, 55, 56, 57]
  | 20012608 => [59, 60, 61, 62, 63, 64, 65, 66, 67, 68, 69, 70, 71, 72, 73, 74]
  | 20016010 => [186, 200]
  | 20016011 => [187, 201]
  | 20016012 => [188, 202]
  | 20016013 => [189, 203]
  | 20016014 => [190, 204]
  | 20016015 => [191, 205]
  | 20016016 => [192, 206]
  | 20016084 => [86, 134]
  | 20016085 => [87, 135]
  | 20016086 => [88, 136]
  | 20016087 => [89, 137]
  | 20016089 => [107, 155]
  | 20016090 => [108, 156]
  | 20016091 => [109, 157]
  | 20016094 => [127, 175]
  | 20016095 => [128, 176]
  | 20016120 => [83, 131]
  | 20016121 => [84, 132]
  | 20016201 => [7]
  | 20016202 => [8]
  | 20016203 => [9]
  | 20016204 => [10]
  | 20016209 => [75]
  | 20016210 => [76]
  | 20016211 => [77]
  | 20016377 => [216]
  | 20016378 => [217]
  | 20016379 => [218]
  | 20016488 => [91, 92, 93, 94, 95, 96, 97, 98, 99, 100, 101, 102, 103, 104, 105, 106, 139, 140, 141, 142, 143, 144, 145, 146, 147, 148, 149, 150, 151, 152, 153, 154]
  | 20016492 => [111, 112, 113, 114, 115, 116, 117, 118, 119, 120, 121, 122, 123, 124, 125, 126, 159, 160, 161, 162, 163, 164, 165, 166, 167, 168, 169, 170, 171, 172, 173, 174]
  | 20016605 => [12, 13, 14, 15, 16, 17, 18, 19, 20, 21, 22, 23, 24, 25, 26, 27]
  | 20016606 => [29, 30, 31, 32, 33, 34, 35, 36, 37, 38, 39, 40, 41, 42, 43, 44]
  | 20017375 => [214]
  | 20017376 => [215]
  | 20017380 => [219]
  | 20017382 => [221]
  | 20017383 => [222]
  | 20200017 => [193, 207]
  | 20200018 => [194, 208]
  | 20288213 => [78]
  | 20288214 => [79]
  | 20288215 => [80]
  | 20289381 => [220]
  | 20432373 => [213]
  | 20840361 => [210]
  | 20869371 => [211]
  | 20869372 => [212]
  | 21000389 => [225]
  | 30840280 => [2]
  | 40001990 => [226]
  | 40016122 => [85, 133]
  | 40017384 => [223]
  | 40017385 => [224]
  | 50012207 => [45]
  | 50016088 => [90, 138]
  | 50016092 => [110, 158]
  | 50016205 => [11]
  | 50016206 => [28]
  | 50016208 => [58]
  | _ => []
def st_ix (t i : Nat) : Nat := (st_ixL t).getD i 0
def st_inv : List (Nat × Nat) := [(10008908, 0), (10007907, 0), (30840280, 0), (10004904, 0), (20003166, 0), (10006906, 0), (10005905, 0), (20016201, 0), (20016202, 0), (20016203, 0), (20016204, 0), (50016205, 0), (20016605, 0), (20016605, 1), (20016605, 2), (20016605, 3), (20016605, 4), (20016605, 5), (20016605, 6), (20016605, 7), (20016605, 8), (20016605, 9), (20016605, 10), (20016605, 11), (20016605, 12), (20016605, 13), (20016605, 14), (20016605, 15), (50016206, 0), (20016606, 0), (20016606, 1), (20016606, 2), (20016606, 3), (20016606, 4), (20016606, 5), (20016606, 6), (20016606, 7), (20016606, 8), (20016606, 9), (20016606, 10), (20016606, 11), (20016606, 12), (20016606, 13), (20016606, 14), (20016606, 15), (50012207, 0), (20012607, 0), (20012607, 1), (20012607, 2), (20012607, 3), (20012607, 4), (20012607, 5), (20012607, 6), (20012607, 7), (20012607, 8), (20012607, 9), (20012607, 10), (20012607, 11), (50016208, 0), (20012608, 0), (20012608, 1), (20012608, 2), (20012608, 3), (20012608, 4), (20012608, 5), (20012608, 6), (20012608, 7), (20012608, 8), (20012608, 9), (20012608, 10), (20012608, 11), (20012608, 12), (20012608, 13), (20012608, 14), (20012608, 15), (20016209, 0), (20016210, 0), (20016211, 0), (20288213, 0), (20288214, 0), (20288215, 0), (10002902, 0), (10003903, 0), (20016120, 0), (20016121, 0), (40016122, 0), (20016084, 0), (20016085, 0), (20016086, 0), (20016087, 0), (50016088, 0), (20016488, 0), (20016488, 1), (20016488, 2), (20016488, 3), (20016488, 4), (20016488, 5), (20016488, 6), (20016488, 7), (20016488, 8), (20016488, 9), (20016488, 10), (20016488, 11), (20016488, 12), (20016488, 13), (20016488, 14), (20016488, 15), (20016089, 0), (20016090, 0), (20016091, 0), (50016092, 0), (20016492, 0), (20016492, 1), (20016492, 2), (20016492, 3), (20016492, 4), (20016492, 5), (20016492, 6), (20016492, 7), (20016492, 8), (20016492, 9), (20016492, 10), (20016492, 11), (20016492, 12), (20016492, 13), (20016492, 14), (20016492, 15), (20016094, 0), (20016095, 0), (10002902, 1), (10003903, 1), (20016120, 1), (20016121, 1), (40016122, 1), (20016084, 1), (20016085, 1), (20016086, 1), (20016087, 1), (50016088, 1), (20016488, 16), (20016488, 17), (20016488, 18), (20016488, 19), (20016488, 20), (20016488, 21), (20016488, 22), (20016488, 23), (20016488, 24), (20016488, 25), (20016488, 26), (20016488, 27), (20016488, 28), (20016488, 29), (20016488, 30), (20016488, 31), (20016089, 1), (20016090, 1), (20016091, 1), (50016092, 1), (20016492, 16), (20016492, 17), (20016492, 18), (20016492, 19), (20016492, 20), (20016492, 21), (20016492, 22), (20016492, 23), (20016492, 24), (20016492, 25), (20016492, 26), (20016492, 27), (20016492, 28), (20016492, 29), (20016492, 30), (20016492, 31), (20016094, 1), (20016095, 1), (10001901, 0), (20012040, 0), (20012041, 0), (20012042, 0), (10000900, 0), (20012006, 0), (20012007, 0), (20004008, 0), (20004009, 0), (20016010, 0), (20016011, 0), (20016012, 0), (20016013, 0), (20016014, 0), (20016015, 0), (20016016, 0), (20200017, 0), (20200018, 0), (10000900, 1), (20012006, 1), (20012007, 1), (20004008, 1), (20004009, 1), (20016010, 1), (20016011, 1), (20016012, 1), (20016013, 1), (20016014, 1), (20016015, 1), (20016016, 1), (20200017, 1), (20200018, 1), (10009909, 0), (20840361, 0), (20869371, 0), (20869372, 0), (20432373, 0), (20017375, 0), (20017376, 0), (20016377, 0), (20016378, 0), (20016379, 0), (20017380, 0), (20289381, 0), (20017382, 0), (20017383, 0), (40017384, 0), (40017385, 0), (21000389, 0), (40001990, 0)]
/-- what lies there: 1 object, 2 3 4 rows of numbers, 5 rows of rows -/
def st_ds : List (Nat × Nat × Nat × List (Nat × Nat)) := [(1, 8, 0, [(2, 1), (2, 3), (2, 6), (2, 81), (2, 129), (2, 177), (2, 181), (2, 195), (0, 0)]), (1, 7, 0, [(2, 2), (0, 0)]), (3, 840, 0, []), (1, 4, 0, [(2, 5), (3, 0), (0, 0), (0, 0), (0, 0), (0, 0), (2, 4), (0, 0), (0, 0), (0, 0), (0, 0), (0, 0)]), (2, 3, 0, []), (1, 6, 0, [(2, 1), (0, 0), (0, 0), (0, 0), (0, 0), (0, 0)]), (1, 5, 0, [(3, 0), (2, 7), (2, 8), (2, 9), (2, 10), (2, 11), (2, 28), (2, 45), (2, 58), (2, 75), (2, 76), (2, 77), (0, 0), (2, 78), (2, 79), (2, 80)]), (2, 16, 0, []), (2, 16, 0, []), (2, 16, 0, []), (2, 16, 0, []), (5, 16, 12, []), (2, 16, 0, []), (2, 16, 0, []), (2, 16, 0, []), (2, 16, 0, []), (2, 16, 0, []), (2, 16, 0, []), (2, 16, 0, []), (2, 16, 0, []), (2, 16, 0, []), (2, 16, 0, []), (2, 16, 0, []), (2, 16, 0, []), (2, 16, 0, []), (2, 16, 0, []), (2, 16, 0, []), (2, 16, 0, []), (5, 16, 29, []), (2, 16, 0, []), (2, 16, 0, []), (2, 16, 0, []), (2, 16, 0, []), (2, 16, 0, []), (2, 16, 0, []), (2, 16, 0, []), (2, 16, 0, []), (2, 16, 0, []), (2, 16, 0, []), (2, 16, 0, []), (2, 16, 0, []), (2, 16, 0, []), (2, 16, 0, []), (2, 16, 0, []), (2, 16, 0, []), (5, 12, 46, []), (2, 12, 0, []), (2, 12, 0, []), (2, 12, 0, []), (2, 12, 0, []), (2, 12, 0, []), (2, 12, 0, []), (2, 12, 0, []), (2, 12, 0, []), (2, 12, 0, []), (2, 12, 0, []), (2, 12, 0, []), (2, 12, 0, []), (5, 16, 59, []), (2, 12, 0, []), (2, 12, 0, []), (2, 12, 0, []), (2, 12, 0, []), (2, 12, 0, []), (2, 12, 0, []), (2, 12, 0, []), (2, 12, 0, []), (2, 12, 0, []), (2, 12, 0, []), (2, 12, 0, []), (2, 12, 0, []), (2, 12, 0, []), (2, 12, 0, []), (2, 12, 0, []), (2, 12, 0, []), (2, 16, 0, []), (2, 16, 0, []), (2, 16, 0, []), (2, 288, 0, []), (2, 288, 0, []), (2, 288, 0, []), (1, 2, 0, [(2, 82), (3, 0), (3, 0), (0, 0), (2, 86), (2, 87), (2, 88), (2, 89), (2, 90), (2, 107), (2, 108), (2, 109), (2, 110), (0, 0), (2, 127), (2, 128)]), (1, 3, 0, [(2, 83), (2, 84), (2, 85), (0, 0)]), (2, 16, 0, []), (2, 16, 0, []), (4, 16, 0, []), (2, 16, 0, []), (2, 16, 0, []), (2, 16, 0, []), (2, 16, 0, []), (5, 16, 91, []), (2, 16, 0, []), (2, 16, 0, []), (2, 16, 0, []), (2, 16, 0, []), (2, 16, 0, []), (2, 16, 0, []), (2, 16, 0, []), (2, 16, 0, []), (2, 16, 0, []), (2, 16, 0, []), (2, 16, 0, []), (2, 16, 0, []), (2, 16, 0, []), (2, 16, 0, []), (2, 16, 0, []), (2, 16, 0, []), (2, 16, 0, []), (2, 16, 0, []), (2, 16, 0, []), (5, 16, 111, []), (2, 16, 0, []), (2, 16, 0, []), (2, 16, 0, []), (2, 16, 0, []), (2, 16, 0, []), (2, 16, 0, []), (2, 16, 0, []), (2, 16, 0, []), (2, 16, 0, []), (2, 16, 0, []), (2, 16, 0, []), (2, 16, 0, []), (2, 16, 0, []), (2, 16, 0, []), (2, 16, 0, []), (2, 16, 0, []), (2, 16, 0, []), (2, 16, 0, []), (1, 2, 0, [(2, 130), (3, 0), (3, 0), (0, 0), (2, 134), (2, 135), (2, 136), (2, 137), (2, 138), (2, 155), (2, 156), (2, 157), (2, 158), (0, 0), (2, 175), (2, 176)]), (1, 3, 0, [(2, 131), (2, 132), (2, 133), (0, 0)]), (2, 16, 0, []), (2, 16, 0, []), (4, 16, 0, []), (2, 16, 0, []), (2, 16, 0, []), (2, 16, 0, []), (2, 16, 0, []), (5, 16, 139, []), (2, 16, 0, []), (2, 16, 0, []), (2, 16, 0, []), (2, 16, 0, []), (2, 16, 0, []), (2, 16, 0, []), (2, 16, 0, []), (2, 16, 0, []), (2, 16, 0, []), (2, 16, 0, []), (2, 16, 0, []), (2, 16, 0, []), (2, 16, 0, []), (2, 16, 0, []), (2, 16, 0, []), (2, 16, 0, []), (2, 16, 0, []), (2, 16, 0, []), (2, 16, 0, []), (5, 16, 159, []), (2, 16, 0, []), (2, 16, 0, []), (2, 16, 0, []), (2, 16, 0, []), (2, 16, 0, []), (2, 16, 0, []), (2, 16, 0, []), (2, 16, 0, []), (2, 16, 0, []), (2, 16, 0, []), (2, 16, 0, []), (2, 16, 0, []), (2, 16, 0, []), (2, 16, 0, []), (2, 16, 0, []), (2, 16, 0, []), (2, 16, 0, []), (2, 16, 0, []), (1, 1, 0, [(2, 178), (2, 179), (2, 180), (0, 0)]), (2, 12, 0, []), (2, 12, 0, []), (2, 12, 0, []), (1, 0, 0, [(0, 0), (0, 0), (0, 0), (0, 0), (0, 0), (0, 0), (2, 182), (2, 183), (2, 184), (2, 185), (2, 186), (2, 187), (2, 188), (2, 189), (2, 190), (2, 191), (2, 192), (2, 193), (2, 194)]), (2, 12, 0, []), (2, 12, 0, []), (2, 4, 0, []), (2, 4, 0, []), (2, 16, 0, []), (2, 16, 0, []), (2, 16, 0, []), (2, 16, 0, []), (2, 16, 0, []), (2, 16, 0, []), (2, 16, 0, []), (2, 200, 0, []), (2, 200, 0, []), (1, 0, 0, [(0, 0), (0, 0), (0, 0), (0, 0), (0, 0), (0, 0), (2, 196), (2, 197), (2, 198), (2, 199), (2, 200), (2, 201), (2, 202), (2, 203), (2, 204), (2, 205), (2, 206), (2, 207), (2, 208)]), (2, 12, 0, []), (2, 12, 0, []), (2, 4, 0, []), (2, 4, 0, []), (2, 16, 0, []), (2, 16, 0, []), (2, 16, 0, []), (2, 16, 0, []), (2, 16, 0, []), (2, 16, 0, []), (2, 16, 0, []), (2, 200, 0, []), (2, 200, 0, []), (1, 9, 0, [(0, 0), (2, 210), (0, 0), (0, 0), (0, 0), (0, 0), (0, 0), (0, 0), (0, 0), (0, 0), (1, 0), (2, 211), (2, 212), (2, 213), (0, 0), (2, 214), (2, 215), (2, 216), (2, 217), (2, 218), (2, 219), (2, 220), (2, 221), (2, 222), (2, 223), (2, 224), (0, 0), (0, 0), (0, 0), (2, 225), (0, 0)]), (2, 840, 0, []), (2, 869, 0, []), (2, 869, 0, []), (2, 432, 0, []), (2, 17, 0, []), (2, 17, 0, []), (2, 16, 0, []), (2, 16, 0, []), (2, 16, 0, []), (2, 17, 0, []), (2, 289, 0, []), (2, 17, 0, []), (2, 17, 0, []), (4, 17, 0, []), (4, 17, 0, []), (2, 1000, 0, []), (4, 1, 0, [])]
def st_dv (h : Nat) (f : Nat × Nat) : Value := if f.1 = 0 then .int 0 else if f.1 = 1 then .long 0 else if f.1 = 2 then .ref (h + f.2) else .null
def st_den (h : Nat) (cs : Nat → ClassId) (q : Nat × Nat × Nat × List (Nat × Nat)) : va_E :=
  if q.1 = 1 then .inr (q.2.1, q.2.2.2.map (st_dv h))
  else if q.1 = 2 then .inl (cs 0, q.2.1, .inl (fun _ => 0))
  else if q.1 = 3 then .inl (cs 1, q.2.1, .inl (fun _ => 0))
  else if q.1 = 4 then .inl (cs 2, q.2.1, .inr (.inl (fun _ => 0)))
  else .inl (cs 3, q.2.1, .inr (.inr (.inr (.inr (fun j => some (h + q.2.2.1 + j))))))
/-- all cells behind the constructors -/
def st_c1 (cs : Nat → ClassId) (h : Nat) : List va_E := .inr (8, fsX8 (h + 1)) :: clX8 cs (h + 1)
def st_c2 (cs : Nat → ClassId) (h : Nat) : List va_E := .inr (9, fsX9 (h + 210)) :: clX9 cs (h + 210)
def st_cl (cs : Nat → ClassId) (h : Nat) : List va_E := (st_c1 cs h ++ st_c2 cs h) ++ [.inl (cs 2, 1, .inr (.inl (fun _ => 0)))]
set_option maxRecDepth 100000 in
set_option maxHeartbeats 20000000 in
theorem st_cl_eq (cs : Nat → ClassId) (h : Nat) : st_cl cs h = st_ds.map (st_den h cs) := by
  simp only [st_cl, st_c1, st_c2, fsX8, clX8, fsX9, clX9, st_ds, List.map_cons, List.map_nil, List.cons_append, List.nil_append]
  rfl
def st_m : pm_M := (fun _ _ _ => 0, fun _ _ _ => 0, fun t _ k => if t = 10008908 then if k = 6 then some 0 else if k = 7 then some 1 else none else none)
def st_fv (t i k : Nat) : Nat × Nat :=
  if (pm_fk t k).1 = 0 then (0, 0) else if (pm_fk t k).1 = 1 then (1, 0) else if (pm_fk t k).1 = 2 then (2, st_ix (pm_fk t k).2.1 (i + (pm_fk t k).2.2))
  else match st_m.2.2 t i k with
    | none => (3, 0)
    | some j => (2, st_ix (pm_fk t k).2.1 j)
def st_ce (t i : Nat) : Nat × Nat × Nat × List (Nat × Nat) :=
  (t / 10000000, t / 1000 % 10000, if t / 10000000 = 5 then st_ix (pm_rt t) (t / 1000 % 10000 * i) else 0, if t / 10000000 = 1 then (List.range (pm_fN (t / 1000 % 10000))).map (st_fv t i) else [])
def st_at (t i : Nat) : Nat × Nat × Nat × List (Nat × Nat) := st_ds.getD (st_ix t i) (0, 0, 0, [])
set_option maxRecDepth 100000 in
theorem st_t1a : ∀ q ∈ pm_tags, ∀ i, i < q.2 → st_ix q.1 i < 227 ∧ (st_at q.1 i).1 = (st_ce q.1 i).1 ∧ (st_at q.1 i).2.1 = (st_ce q.1 i).2.1 ∧ (st_at q.1 i).2.2.1 = (st_ce q.1 i).2.2.1 ∧ (st_at q.1 i).2.2.2 = (st_ce q.1 i).2.2.2 := by decide +kernel
theorem st_len : st_ds.length = 227 := by decide +kernel
theorem st_t1 : ∀ q ∈ pm_tags, ∀ i, i < q.2 → st_ds[st_ix q.1 i]? = some (st_ce q.1 i) := by
  intro q hq i hi
  obtain ⟨h0, h1, h2, h3, h4⟩ := st_t1a q hq i hi
  have e : st_at q.1 i = st_ce q.1 i := Prod.ext h1 (Prod.ext h2 (Prod.ext h3 h4))
  have hl : st_ix q.1 i < st_ds.length := by rw [st_len]; exact h0
  rw [← e, st_at, List.getD_eq_getElem?_getD, List.getElem?_eq_getElem hl]
  rfl
set_option maxRecDepth 100000 in
theorem st_t2 : ∀ q ∈ pm_tags, ∀ i, i < q.2 → st_inv[st_ix q.1 i]? = some (q.1, i) := by decide +kernel
set_option maxRecDepth 100000 in
theorem st_t3 : ∀ q ∈ pm_tags, ∀ i, i < q.2 → q.1 / 10000000 = 5 → ¬ pm_rt q.1 = 99 ∧ ∀ j, j < q.1 / 1000 % 10000 → st_ix (pm_rt q.1) (q.1 / 1000 % 10000 * i + j) = st_ix (pm_rt q.1) (q.1 / 1000 % 10000 * i) + j := by decide +kernel
set_option maxRecDepth 100000 in
theorem st_t4 : ∀ q ∈ pm_tags, ¬ q.1 = 99 ∧ ∀ k, k < pm_fN (q.1 / 1000 % 10000) → ¬ (pm_fk q.1 k).2.1 = 99 := by decide +kernel
theorem st_t5 : ∀ q ∈ pm_tags, q.1 / 10000000 = 1 ∨ q.1 / 10000000 = 2 ∨ q.1 / 10000000 = 3 ∨ q.1 / 10000000 = 4 ∨ q.1 / 10000000 = 5 := by decide +kernel
/-- where all lies -/
def st_ad (h : Nat) (adK adV : Nat → Nat) (fm b : Nat) : pm_A := fun t i => if t = 99 then (if i < 100 then adK i else if i < 200 then adV (i - 100) else if i = 200 then fm else b) else h + st_ix t i
section STA
variable {h fm b : Nat} {adK adV : Nat → Nat} {D : va_G} {cs : Nat → ClassId}
theorem st_ad_ne {t i : Nat} (ht : ¬ t = 99) : st_ad h adK adV fm b t i = h + st_ix t i := if_neg ht
theorem st_ad_inj (t i t' i' : Nat) (hi : i < pm_tn t) (hi' : i' < pm_tn t') (e : st_ad h adK adV fm b t i = st_ad h adK adV fm b t' i') : t = t' ∧ i = i' := by
  have m1 := pm_tn_mem hi
  have m2 := pm_tn_mem hi'
  rw [st_ad_ne (st_t4 _ m1).1, st_ad_ne (st_t4 _ m2).1] at e
  have e2 : st_ix t i = st_ix t' i' := Nat.add_left_cancel e
  have h1 : st_inv[st_ix t i]? = some (t, i) := st_t2 _ m1 i hi
  have h2 : st_inv[st_ix t' i']? = some (t', i') := st_t2 _ m2 i' hi'
  rw [e2, h2] at h1
  have := Option.some.inj h1
  exact ⟨(congrArg Prod.fst this).symm, (congrArg Prod.snd this).symm⟩
theorem st_ad_ge (t i : Nat) (hi : i < pm_tn t) : h ≤ st_ad h adK adV fm b t i := by
  rw [st_ad_ne (st_t4 _ (pm_tn_mem hi)).1]
  exact Nat.le_add_right _ _
theorem st_fv_mv {t i k : Nat} (hk : ¬ (pm_fk t k).2.1 = 99) : st_dv h (st_fv t i k) = pm_mv (st_ad h adK adV fm b) (pm_fv st_m t i k) := by
  unfold st_fv pm_fv
  by_cases h0 : (pm_fk t k).1 = 0
  · rw [if_pos h0, if_pos h0]; rfl
  · rw [if_neg h0, if_neg h0]
    by_cases h1 : (pm_fk t k).1 = 1
    · rw [if_pos h1, if_pos h1]; rfl
    · rw [if_neg h1, if_neg h1]
      by_cases h2 : (pm_fk t k).1 = 2
      · rw [if_pos h2, if_pos h2]
        show Value.ref _ = Value.ref (st_ad h adK adV fm b _ _)
        rw [st_ad_ne hk]
      · rw [if_neg h2, if_neg h2]
        rcases st_m.2.2 t i k with _ | j
        · rfl
        · show Value.ref _ = Value.ref (st_ad h adK adV fm b _ _)
          rw [st_ad_ne hk]
theorem st_H {H : Heap} (hH : ∀ (k : Nat) (x : va_E), (st_cl cs h)[k]? = some x → va_at D vwCl (h + k, x) H) : pm_H (st_ad h adK adV fm b) D cs st_m H := by
  refine ⟨fun t i hi => ?_, fun t i k j hi hk hj => ?_⟩
  · have hm := pm_tn_mem hi
    have h1 : st_ds[st_ix t i]? = some (st_ce t i) := st_t1 _ hm i hi
    have h2 := hH (st_ix t i) (st_den h cs (st_ce t i)) (by rw [st_cl_eq, List.getElem?_map, h1]; rfl)
    rw [st_ad_ne (st_t4 _ hm).1]
    have h5 : t / 10000000 = 1 ∨ t / 10000000 = 2 ∨ t / 10000000 = 3 ∨ t / 10000000 = 4 ∨ t / 10000000 = 5 := st_t5 _ hm
    unfold pm_ce
    by_cases k1 : t / 10000000 = 1
    · rw [if_pos k1]
      have e : st_den h cs (st_ce t i) = .inr (t / 1000 % 10000, pm_fs (st_ad h adK adV fm b) st_m t i) := by
        simp only [st_den, st_ce, if_pos k1, pm_fs, List.map_map]
        refine congrArg (fun z => Sum.inr (t / 1000 % 10000, z)) (List.map_congr_left (fun k hk => ?_))
        exact st_fv_mv ((st_t4 _ hm).2 k (List.mem_range.mp hk))
      rw [e] at h2
      exact h2
    · rw [if_neg k1]
      by_cases k2 : t / 10000000 = 2
      · have e : st_den h cs (st_ce t i) = .inl (cs 0, t / 1000 % 10000, .inl (fun _ => 0)) := by simp only [st_den, st_ce, if_neg k1, if_pos k2]
        rw [e] at h2
        rw [if_pos k2]
        exact h2
      · rw [if_neg k2]
        by_cases k3 : t / 10000000 = 3
        · have e : st_den h cs (st_ce t i) = .inl (cs 1, t / 1000 % 10000, .inl (fun _ => 0)) := by simp only [st_den, st_ce, if_neg k1, if_neg k2, if_pos k3]
          rw [e] at h2
          rw [if_pos k3]
          exact h2
        · rw [if_neg k3]
          by_cases k4 : t / 10000000 = 4
          · have e : st_den h cs (st_ce t i) = .inl (cs 2, t / 1000 % 10000, .inr (.inl (fun _ => 0))) := by simp only [st_den, st_ce, if_neg k1, if_neg k2, if_neg k3, if_pos k4]
            rw [e] at h2
            rw [if_pos k4]
            exact h2
          · have k5 : t / 10000000 = 5 := by omega
            have e : st_den h cs (st_ce t i) = .inl (cs 3, t / 1000 % 10000, .inr (.inr (.inr (.inr (fun j => some (h + st_ix (pm_rt t) (t / 1000 % 10000 * i) + j)))))) := by simp only [st_den, st_ce, if_neg k1, if_neg k2, if_neg k3, if_neg k4, if_pos k5]
            rw [e] at h2
            rw [if_neg k4]
            have r1 : ¬ pm_rt t = 99 := (st_t3 _ hm i hi k5).1
            have r2 : ∀ j, j < t / 1000 % 10000 → st_ix (pm_rt t) (t / 1000 % 10000 * i + j) = st_ix (pm_rt t) (t / 1000 % 10000 * i) + j := (st_t3 _ hm i hi k5).2
            have h3 : H[h + st_ix t i]? = some (arrV (cs 3) (t / 1000 % 10000) (fun j => va_rf (some (h + st_ix (pm_rt t) (t / 1000 % 10000 * i) + j)))) := h2
            show H[h + st_ix t i]? = some (arrV (cs 3) (t / 1000 % 10000) (fun j => va_rf (some (st_ad h adK adV fm b (pm_rt t) (t / 1000 % 10000 * i + j)))))
            rw [h3]
            refine congrArg some (arrV_cong (fun j hj => ?_))
            rw [st_ad_ne r1, r2 j hj, Nat.add_assoc]
  · have hj' : (if t = 10008908 then if k = 6 then some 0 else if k = 7 then some 1 else none else none) = some j := hj
    by_cases ht : t = 10008908
    · subst ht
      by_cases h1 : k = 6
      · subst h1
        rw [if_pos rfl, if_pos rfl] at hj'
        cases hj'
        decide +kernel
      · by_cases h2 : k = 7
        · subst h2
          rw [if_pos rfl, if_neg h1, if_pos rfl] at hj'
          cases hj'
          decide +kernel
        · rw [if_pos rfl, if_neg h1, if_neg h2] at hj'
          cases hj'
    · rw [if_neg ht] at hj'
      cases hj'
end STA
/-- nothing told -/
def st_K (k : Nat) : Nat := if 4 ≤ k ∧ k < 20 then 1 else 0
theorem st_K0 (k : Nat) (h : k < 4 ∨ 20 ≤ k) : st_K k = 0 := if_neg (by omega)
theorem st_K1 {t : Nat} (h : t < 16) : st_K (4 + t) = 1 := if_pos (by omega)
theorem st_WF : WF st_K := by
  have e37 : st_K 37 = 0 := rfl
  have e39 : st_K 39 = 0 := rfl
  have e40 : st_K 40 = 0 := rfl
  refine ⟨by decide, by decide, by decide, by decide, by decide, fun k hk => ?_, fun p hp => ?_, fun l hl => ?_, fun t ht => ?_, fun t l ht => ?_⟩
  · rw [st_K0 k (Or.inl hk), st_K0 (65 + k) (Or.inr (by omega))]; decide
  · rw [st_K0 (41 + p) (Or.inr (by omega)), st_K0 (53 + p) (Or.inr (by omega))]; decide
  · rw [e39] at hl; omega
  · rw [e40] at ht; omega
  · rw [e40] at ht; omega
theorem st_WZ : WZ st_K := ⟨fun k _ hk => st_K0 k (Or.inl hk), fun a b _ _ _ => st_K0 (709 + 12 * a + b) (Or.inr (by omega)), fun k _ => by rw [st_K0 (709 + k) (Or.inr (by omega))]; decide⟩
theorem st_HW : HW 0 (fun _ => st_K) st_K := ⟨by decide, rfl, fun _ _ => ⟨st_WF, st_WZ⟩⟩
theorem st_LI : LI st_m := by
  have e36 : st_K 36 = 0 := rfl
  have e37 : st_K 37 = 0 := rfl
  have e38 : st_K 38 = 0 := rfl
  have e39 : st_K 39 = 0 := rfl
  have e40 : st_K 40 = 0 := rfl
  have n0 : nI 0 = 0 := rfl
  have hg : gps st_K = [] := rfl
  have ho : opn st_K (aw st_K) ai (st_K 39) = 0 := rfl
  refine ⟨0, 1, st_K, 0, fun _ => st_K, 0, fun _ => 0, 0, ⟨⟨⟨rfl, ⟨rfl, rfl, rfl, rfl, rfl, fun p hp => ?_, fun k hk => ?_, fun l hl => ?_, fun t ht => ?_⟩, ⟨fun t ht => ?_, fun t l ht => ?_⟩, ?_, fun l hl => ?_, fun a b ha => ?_, ⟨fun t ht => ?_, fun t ht => ?_, fun t ht => ?_, fun t ht => ?_, ?_, fun l hl => ?_⟩⟩, ⟨rfl, fun j hj => absurd hj (Nat.not_lt_zero j)⟩, st_HW⟩, rfl, ⟨rfl, fun k hk => absurd hk (Nat.not_lt_zero k)⟩, rfl⟩,
    ⟨⟨⟨fun k _ hk => ?_, fun t ht => ?_⟩, ⟨rfl, fun j k hj => absurd hj (Nat.not_lt_zero j)⟩, st_HW⟩, ⟨rfl, fun k hk => absurd hk (Nat.not_lt_zero k)⟩, rfl⟩, by decide, by decide, fun _ => Nat.zero_lt_succ _⟩
  · rw [e37] at hp; omega
  · rw [e38] at hk; omega
  · rw [e39] at hl; omega
  · rw [e40] at ht; omega
  · rw [e40] at ht; omega
  · rw [e40] at ht; omega
  · rw [hg]
    exact ⟨rfl, fun i q hq => (by cases hq)⟩
  · rw [e39] at hl; omega
  · rw [e37] at ha; omega
  · rw [e40] at ht; omega
  · rw [e40] at ht; omega
  · rw [e40] at ht; omega
  · rw [e40] at ht; omega
  · rw [ho]; rfl
  · rw [e39] at hl; omega
  · rw [st_K0 k hk]; rfl
  · rw [st_K1 ht]
    exact (by decide : (0 : Int32) = nI 1 - 1)
