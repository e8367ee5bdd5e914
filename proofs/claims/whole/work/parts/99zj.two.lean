/-! a call of the class, the same call of the reference: equal answers, and both hold the same -/
def LC (mem : pm_M) (d d' : Nat) (K : Nat → Nat) (n : Nat) (S : Nat → Nat → Nat) (T : Nat) (B : Nat → Nat) (f : Int32) : Prop := CI mem d K n S ∧ mem.2.2 10008908 0 7 = some d' ∧ tapC mem T B ∧ mem.1 10008908 0 8 = f
def LM (mem : pm_M) (K : Nat → Nat) (n : Nat) (S : Nat → Nat → Nat) (T : Nat) (B : Nat → Nat) (f : Int32) : Prop := MI mem K n S ∧ tapM mem T B ∧ mem.1 10009909 0 8 = f
def LI (mem : pm_M) : Prop := ∃ (d d' : Nat) (K : Nat → Nat) (n : Nat) (S : Nat → Nat → Nat) (T : Nat) (B : Nat → Nat) (f : Int32), LC mem d d' K n S T B f ∧ LM mem K n S T B f ∧ ¬ d = d' ∧ T ≤ 840 ∧ ∀ k, B k < 256
section TWO
variable {mem m0 m1 m2 : pm_M} {d d' n T : Nat} {K : Nat → Nat} {S : Nat → Nat → Nat} {B : Nat → Nat} {f : Int32}
theorem LC.fr {F : Nat → Nat → Prop} (h : LC m0 d d' K n S T B f) (hf : pm_fr F m0 m1) (hF : ∀ t i, F t i → t ∈ mdTs) : LC m1 d d' K n S T B f := by
  have hn : ∀ t, ¬ t ∈ mdTs → ∀ i, ¬ F t i := fun t ht i z => ht (hF t i z)
  have e8 := hf 10008908 0 (hn _ (by decide) 0)
  have e7 := hf 10007907 0 (hn _ (by decide) 0)
  have eb := hf 30840280 0 (hn _ (by decide) 0)
  refine ⟨⟨h.1.1.keep e8.2.2 hf (fun t ht => hn t (?_ : ¬ t ∈ mdTs) d) (fun t ht => hn t (?_ : ¬ t ∈ mdTs)) (fun t ht => hn t (?_ : ¬ t ∈ mdTs) 0) (fun t ht => hn t (?_ : ¬ t ∈ mdTs)) (fun t ht => hn t (?_ : ¬ t ∈ mdTs)), h.1.2.1.fr hf (fun t ht => hn t (?_ : ¬ t ∈ mdTs) 0), h.1.2.2⟩, by rw [e8.2.2]; exact h.2.1, ⟨by rw [e7.1]; exact h.2.2.1.1, fun k hk => by rw [eb.1]; exact h.2.2.1.2 k hk⟩, by rw [e8.1]; exact h.2.2.2⟩
  all_goals revert t
  all_goals decide
theorem LM.fr {F : Nat → Nat → Prop} (h : LM m0 K n S T B f) (hf : pm_fr F m0 m1) (hF : ∀ t i, F t i → ¬ t ∈ mdTs) : LM m1 K n S T B f := by
  have hn : ∀ t, t ∈ mdTs → ∀ i, ¬ F t i := fun t ht i z => hF t i z ht
  have e9 := hf 10009909 0 (hn _ (by decide) 0)
  have et := hf 20840361 0 (hn _ (by decide) 0)
  have es := hf 20432373 0 (hn _ (by decide) 0)
  exact ⟨⟨h.1.1.fr hf (hn _ (by decide) 0), ⟨by rw [e9.1]; exact h.1.2.1.1, fun j k hj hk => by rw [es.1]; exact h.1.2.1.2 j k hj hk⟩, h.1.2.2⟩, ⟨by rw [e9.1]; exact h.2.1.1, fun k hk => by rw [et.1]; exact h.2.1.2 k hk⟩, by rw [e9.1]; exact h.2.2⟩
theorem LM.mq (h : LM m0 K n S T B f) (hf : pm_fr sMQ m0 m1) (hd : mdT m0 m1) : LM m1 K n S T B f := by
  have et := hf 20840361 0 (by simp [sMQ])
  have es := hf 20432373 0 (by simp [sMQ])
  exact ⟨⟨h.1.1.fr hf (by simp [sMQ]), ⟨(hd _ (by decide) (by decide) (by decide) (by decide) (by decide)).trans h.1.2.1.1, fun j k hj hk => by rw [es.1]; exact h.1.2.1.2 j k hj hk⟩, h.1.2.2⟩, ⟨(hd _ (by decide) (by decide) (by decide) (by decide) (by decide)).trans h.2.1.1, fun k hk => by rw [et.1]; exact h.2.1.2 k hk⟩, (hd _ (by decide) (by decide) (by decide) (by decide) (by decide)).trans h.2.2⟩
theorem sMQ_md : ∀ t i, sMQ t i → t ∈ mdTs := fun t _ h => (by decide : ∀ t ∈ [10009909, 20017375, 20017376, 20016377, 20016378, 20016379, 20289381, 20017380, 40017384, 20017383, 20017382, 40017385, 21000389], t ∈ mdTs) t h.1
theorem LI.mq (hC : LC m1 d d' K n S T B f) (hM : LM m1 K n S T B f) (hne : ¬ d = d') (hT : T ≤ 840) (hB : ∀ k, B k < 256) (hf : pm_fr sMQ m1 m2) (hd : mdT m1 m2) : LI m2 := ⟨d, d', K, n, S, T, B, f, hC.fr hf sMQ_md, hM.mq hf hd, hne, hT, hB⟩
section TWC
variable {y1 y2 : MethodName} {c1 c2 : ByteArray} {a1 a2 f1 f2 g1 g2 : Nat} {r1 r2 : Option FieldType} {as1 as2 : List pm_v}
/-- one call, twice -/
def Tw (y1 : MethodName) (c1 : ByteArray) (a1 : Nat) (r1 : Option FieldType) (f1 g1 : Nat) (as1 : List pm_v) (y2 : MethodName) (c2 : ByteArray) (a2 : Nat) (r2 : Option FieldType) (f2 g2 : Nat) (as2 : List pm_v) (mem : pm_M) : Prop :=
  Cl y1 c1 a1 r1 f1 g1 as1 mem (fun r m1 => ∃ v, r = some (pI v) ∧ Cl y2 c2 a2 r2 f2 g2 as2 m1 (fun r m2 => r = some (pI v) ∧ LI m2))
theorem Tw.q {v th : Int32} (h : LI mem) (h1 : Cd y1 c1 a1 r1 f1 g1 as1 mem (some (pI v)) mem) (h2 : Cl y2 c2 a2 r2 f2 g2 as2 mem (mqP mem v th)) : Tw y1 c1 a1 r1 f1 g1 as1 y2 c2 a2 r2 f2 g2 as2 mem := by
  obtain ⟨d, d', K, n, S, T, B, f, hC, hM, hne, hT, hB⟩ := h
  refine h1.mono (fun r m1 hr => ⟨v, hr.1, ?_⟩)
  rw [hr.2]
  exact h2.mono (fun r m2 hq => ⟨hq.1, LI.mq hC hM hne hT hB hq.2.1 hq.2.2.1⟩)
end TWC
theorem sSe_md {L : Nat} : ∀ t i, sSe L t i → ¬ t ∈ mdTs := by
  intro t i h
  rcases h with h | h
  · exact (by decide : ∀ t ∈ [10002902, 20016084, 20016085, 20016086, 20016087, 20016089, 20016090, 20016091, 20016094, 20016095, 10003903, 20016120, 20016121, 40016122], ¬ t ∈ mdTs) t h.1
  · exact (by decide : ∀ t ∈ [20016488, 20016492], ¬ t ∈ mdTs) t h.1
theorem sCh_md : ∀ t i, sCh d t i → ¬ t ∈ mdTs := by
  intro t i h
  rcases h with h | h | h
  · exact (by decide : ∀ t ∈ [20016014, 20004009, 20016010], ¬ t ∈ mdTs) t h.1
  · exact (by decide : ∀ t ∈ [10001901, 20012040, 20012041, 20012042], ¬ t ∈ mdTs) t h.1
  · exact sSe_md t i h
theorem sMU_md : ∀ t i, sMU t i → t ∈ mdTs := fun t _ h => (by decide : ∀ t ∈ [10009909, 20869371, 20432373], t ∈ mdTs) t h.1
theorem sTp_md : ∀ t i, sTp t i → ¬ t ∈ mdTs := fun t _ h => (by decide : ∀ t ∈ [10007907, 30840280], ¬ t ∈ mdTs) t h.1
theorem sTm_md : ∀ t i, sTm t i → t ∈ mdTs := fun t _ h => (by decide : ∀ t ∈ [10009909, 20840361], t ∈ mdTs) t h.1
theorem sMx_md : ∀ t i, sMx t i → t ∈ mdTs := fun t _ h => (by decide : ∀ t ∈ [10009909, 20869372, 20869371], t ∈ mdTs) t h.1
theorem sNM_md : ∀ t i, sNM t i → ¬ t ∈ mdTs := fun _ _ h => h
theorem LC.paper (h : LC m0 d d' K n S T B f) (hf : pm_fr (sSe 1) m0 m1) : LC m1 d d' K n S T B f := by
  have e8 := hf 10008908 0 (by simp [sSe])
  have e7 := hf 10007907 0 (by simp [sSe])
  have eb := hf 30840280 0 (by simp [sSe])
  exact ⟨⟨h.1.1.paper h.1.wf.1 hf, h.1.2.1.fr hf (by simp [sSe]), h.1.2.2⟩, by rw [e8.2.2]; exact h.2.1, ⟨by rw [e7.1]; exact h.2.2.1.1, fun k hk => by rw [eb.1]; exact h.2.2.1.2 k hk⟩, by rw [e8.1]; exact h.2.2.2⟩
theorem LC.ch {K' : Nat → Nat} {n' : Nat} {S' : Nat → Nat → Nat} (h : LC m0 d d' K n S T B f) (hf : pm_fr (sCh d) m0 m1) (hI : CI m1 d K' n' S') : LC m1 d d' K' n' S' T B f := by
  have e8 := hf 10008908 0 (by simp [sCh, sHi, sSe])
  have e7 := hf 10007907 0 (by simp [sCh, sHi, sSe])
  have eb := hf 30840280 0 (by simp [sCh, sHi, sSe])
  exact ⟨hI, by rw [e8.2.2]; exact h.2.1, ⟨by rw [e7.1]; exact h.2.2.1.1, fun k hk => by rw [eb.1]; exact h.2.2.1.2 k hk⟩, by rw [e8.1]; exact h.2.2.2⟩
theorem LM.mu {K' : Nat → Nat} {n' : Nat} {S' : Nat → Nat → Nat} (h : LM m0 K n S T B f) (hf : pm_fr sMU m0 m1) (hd : mdH m0 m1) (hI : MI m1 K' n' S') : LM m1 K' n' S' T B f := by
  have et := hf 20840361 0 (by simp [sMU])
  exact ⟨hI, ⟨(hd _ (by decide) (by decide)).trans h.2.1.1, fun k hk => by rw [et.1]; exact h.2.1.2 k hk⟩, (hd _ (by decide) (by decide)).trans h.2.2⟩
theorem LC.tp {T' : Nat} {B' : Nat → Nat} (h : LC m0 d d' K n S T B f) (hf : pm_fr sTp m0 m1) (ht : tapC m1 T' B') : LC m1 d d' K n S T' B' f := by
  have e8 := hf 10008908 0 (by simp [sTp])
  exact ⟨⟨h.1.1.keep e8.2.2 hf (by simp [sTp]) (by simp [sTp]) (by simp [sTp]) (by simp [sTp]) (by simp [sTp]), h.1.2.1.fr hf (by simp [sTp]), h.1.2.2⟩, by rw [e8.2.2]; exact h.2.1, ht, by rw [e8.1]; exact h.2.2.2⟩
theorem LM.tm {T' : Nat} {B' : Nat → Nat} (h : LM m0 K n S T B f) (hf : pm_fr sTm m0 m1) (hd : mdR m0 m1) (ht : tapM m1 T' B') : LM m1 K n S T' B' f := by
  have es := hf 20432373 0 (by simp [sTm])
  exact ⟨⟨h.1.1.fr hf (by simp [sTm]), ⟨(hd _ (by decide) (by decide)).trans h.1.2.1.1, fun j k hj hk => by rw [es.1]; exact h.1.2.1.2 j k hj hk⟩, h.1.2.2⟩, ht, (hd _ (by decide) (by decide)).trans h.2.2⟩
theorem up_lt {p v : Nat} (hB : ∀ k, B k < 256) (hv : v < 256) : ∀ k, up B p v k < 256 := fun k => by
  unfold up
  split
  · exact hv
  · exact hB k
theorem bw_lt {p : Nat} {w : Int32} (hB : ∀ k, B k < 256) : ∀ k, bw B p w k < 256 := up_lt (up_lt (up_lt (up_lt hB (bN_lt _)) (bN_lt _)) (bN_lt _)) (bN_lt _)
theorem fdB_lt {a b c d e : Int32} (hB : ∀ k, B k < 256) : ∀ k, fdB B T a b c d e k < 256 := bw_lt (bw_lt (bw_lt (bw_lt (bw_lt hB))))
theorem LI.get (h : LI mem) : ∃ (d : Nat) (K : Nat → Nat), IC mem d K ∧ rowR 20869371 mem K ∧ WF K ∧ WZ K := by
  obtain ⟨d, d', K, n, S, T, B, f, hC, hM, hne, hT, hB⟩ := h
  exact ⟨d, K, hC.1.1, hM.1.1, hC.1.wf.1, hC.1.wf.2⟩
theorem tw_direct (h : LI mem) (a b : Int32) : Tw yX8_direct cX8_direct 3 (some .int) 2 44 [pR 10008908 0, pI a, pI b] yX9_direct cX9_direct 3 (some .int) 2 43 [pR 10009909 0, pI a, pI b] mem := by
  obtain ⟨d, K, hI, hR, hW, hZ⟩ := h.get
  exact Tw.q h (sp_X8_direct hI hW a b) (sp_X9_direct hR hW a b)
theorem tw_truck (h : LI mem) (k w : Int32) : Tw yX8_truck cX8_truck 3 (some .int) 1 24 [pR 10008908 0, pI k, pI w] yX9_truck cX9_truck 5 (some .int) 2 44 [pR 10009909 0, pI k, pI w] mem := by
  obtain ⟨d, K, hI, hR, hW, hZ⟩ := h.get
  exact Tw.q h (sp_X8_truck hI hW k w) (sp_X9_truck hR hW k w)
theorem tw_share (h : LI mem) (t l : Int32) : Tw yX8_share cX8_share 3 (some .int) 1 21 [pR 10008908 0, pI t, pI l] yX9_share cX9_share 3 (some .int) 7 156 [pR 10009909 0, pI t, pI l] mem := by
  obtain ⟨d, K, hI, hR, hW, hZ⟩ := h.get
  exact Tw.q h (sp_X8_share hI hW t l) (sp_X9_share hR hW t l)
theorem tw_gap (h : LI mem) (k w : Int32) : Tw yX8_gap cX8_gap 3 (some .int) 1 21 [pR 10008908 0, pI k, pI w] yX9_gap cX9_gap 3 (some .int) 2 46 [pR 10009909 0, pI k, pI w] mem := by
  obtain ⟨d, K, hI, hR, hW, hZ⟩ := h.get
  exact Tw.q h (sp_X8_gap hI hW k w) (sp_X9_gap hR hW k w)
theorem tw_way (h : LI mem) (a b : Int32) : Tw yX8_way cX8_way 3 (some .int) 1 21 [pR 10008908 0, pI a, pI b] yX9_way cX9_way 3 (some .int) 2 43 [pR 10009909 0, pI a, pI b] mem := by
  obtain ⟨d, K, hI, hR, hW, hZ⟩ := h.get
  exact Tw.q h (sp_X8_way hI hW a b) (sp_X9_way hR hW a b)
theorem tw_hub (h : LI mem) (p : Int32) : Tw yX8_hub cX8_hub 4 (some .int) 1 21 [pR 10008908 0, pI p] yX9_hub cX9_hub 2 (some .int) 2 48 [pR 10009909 0, pI p] mem := by
  obtain ⟨d, K, hI, hR, hW, hZ⟩ := h.get
  exact Tw.q h (sp_X8_hub hI hW p) (sp_X9_hub hR hW p)
theorem tw_dearest (h : LI mem) : Tw yX8_dearest cX8_dearest 3 (some .int) 1 26 [pR 10008908 0] yX9_dearest cX9_dearest 3 (some .int) 7 156 [pR 10009909 0] mem := by
  obtain ⟨d, K, hI, hR, hW, hZ⟩ := h.get
  exact Tw.q h (sp_X8_dearest hI hW ) (sp_X9_dearest hR hW )
theorem tw_busiest (h : LI mem) : Tw yX8_busiest cX8_busiest 5 (some .int) 0 0 [pR 10008908 0] yX9_busiest cX9_busiest 3 (some .int) 0 0 [pR 10009909 0] mem := by
  obtain ⟨d, K, hI, hR, hW, hZ⟩ := h.get
  exact Tw.q h (sp_X8_busiest hI hW hZ) (sp_X9_busiest hR hZ)
theorem tw_fault (h : LI mem) : Tw yX8_fault cX8_fault 1 (some .int) 0 0 [pR 10008908 0] yX9_fault cX9_fault 1 (some .int) 0 0 [pR 10009909 0] mem := by
  obtain ⟨d, d', K, n, S, T, B, f, hC, hM, hne, hT, hB⟩ := id h
  have e : mem.1 10008908 0 8 = mem.1 10009909 0 8 := hC.2.2.2.trans hM.2.2.symm
  have h1 := sp_X8_fault (mem := mem)
  rw [e] at h1
  exact Tw.q h h1 sp_X9_fault
theorem tw_now (h : LI mem) (w : Int32) : Tw yX8_now cX8_now 2 (some .int) 1 23 [pR 10008908 0, pI w] yX9_now cX9_now 4 (some .int) 7 156 [pR 10009909 0, pI w] mem := by
  obtain ⟨d, d', K, n, S, T, B, f, hC, hM, hne, hT, hB⟩ := id h
  exact Tw.q h (sp_X8_now hC.1.1 hC.1.wf.1 hC.1.2.1.1 hC.2.2.1.1 w) (sp_X9_now hM.1.1 hC.1.wf.1 hC.1.wf.2 hM.1.2.1.1 hM.2.1.1 w)
theorem tw_split (h : LI mem) (l w c : Int32) : Tw yX8_split cX8_split 5 (some .int) 4 98 [pR 10008908 0, pI l, pI w, pI c] yX9_split cX9_split 4 (some .int) 6 136 [pR 10009909 0, pI l, pI w, pI c] mem := by
  obtain ⟨d, d', K, n, S, T, B, f, hC, hM, hne, hT, hB⟩ := h
  refine (sp_X8_split hC.1.1 hC.1.wf.1 l w c).mono (fun r m1 hr => ⟨_, hr.1, ?_⟩)
  have hM1 := hM.fr hr.2 sSe_md
  have hC1 := hC.paper hr.2
  exact (sp_X9_split hM1.1.1 hC.1.wf.1 l w c).mono (fun r m2 hq => ⟨hq.1, LI.mq hC1 hM1 hne hT hB hq.2.1 hq.2.2.1⟩)
theorem tw_without (h : LI mem) (l o : Int32) : Tw yX8_without cX8_without 3 (some .int) 4 98 [pR 10008908 0, pI l, pI o] yX9_without cX9_without 3 (some .int) 6 136 [pR 10009909 0, pI l, pI o] mem := by
  obtain ⟨d, d', K, n, S, T, B, f, hC, hM, hne, hT, hB⟩ := h
  refine (sp_X8_without hC.1.1 hC.1.wf.1 l o).mono (fun r m1 hr => ⟨_, hr.1, ?_⟩)
  have hM1 := hM.fr hr.2 sSe_md
  have hC1 := hC.paper hr.2
  exact (sp_X9_without hM1.1.1 hC.1.wf.1 l o).mono (fun r m2 hq => ⟨hq.1, LI.mq hC1 hM1 hne hT hB hq.2.1 hq.2.2.1⟩)
theorem tw_fuel (h : LI mem) (t v : Int32) : Tw yX8_fuel cX8_fuel 3 (some .int) 6 143 [pR 10008908 0, pI t, pI v] yX9_fuel cX9_fuel 3 (some .int) 2 44 [pR 10009909 0, pI t, pI v] mem := by
  obtain ⟨d, d', K, n, S, T, B, f, hC, hM, hne, hT, hB⟩ := h
  refine (sp_X8_fuel hC.1 t v).mono (fun r m1 hr => ⟨_, hr.1, ?_⟩)
  have hM1 := hM.fr hr.2.1 sCh_md
  have hC1 := hC.ch hr.2.1 hr.2.2
  exact (sp_X9_fuel hM1.1 t v).mono (fun r m2 hq => ⟨hq.1, d, d', _, _, _, T, B, f, hC1.fr hq.2.1 sMU_md, hM1.mu hq.2.1 hq.2.2.1 hq.2.2.2.2, hne, hT, hB⟩)
theorem tw_buy (h : LI mem) (t v : Int32) : Tw yX8_buy cX8_buy 3 (some .int) 6 143 [pR 10008908 0, pI t, pI v] yX9_buy cX9_buy 3 (some .int) 2 44 [pR 10009909 0, pI t, pI v] mem := by
  obtain ⟨d, d', K, n, S, T, B, f, hC, hM, hne, hT, hB⟩ := h
  refine (sp_X8_buy hC.1 t v).mono (fun r m1 hr => ⟨_, hr.1, ?_⟩)
  have hM1 := hM.fr hr.2.1 sCh_md
  have hC1 := hC.ch hr.2.1 hr.2.2
  exact (sp_X9_buy hM1.1 t v).mono (fun r m2 hq => ⟨hq.1, d, d', _, _, _, T, B, f, hC1.fr hq.2.1 sMU_md, hM1.mu hq.2.1 hq.2.2.1 hq.2.2.2.2, hne, hT, hB⟩)
theorem tw_weigh (h : LI mem) (t v : Int32) : Tw yX8_weigh cX8_weigh 3 (some .int) 6 143 [pR 10008908 0, pI t, pI v] yX9_weigh cX9_weigh 3 (some .int) 2 44 [pR 10009909 0, pI t, pI v] mem := by
  obtain ⟨d, d', K, n, S, T, B, f, hC, hM, hne, hT, hB⟩ := h
  refine (sp_X8_weigh hC.1 t v).mono (fun r m1 hr => ⟨_, hr.1, ?_⟩)
  have hM1 := hM.fr hr.2.1 sCh_md
  have hC1 := hC.ch hr.2.1 hr.2.2
  exact (sp_X9_weigh hM1.1 t v).mono (fun r m2 hq => ⟨hq.1, d, d', _, _, _, T, B, f, hC1.fr hq.2.1 sMU_md, hM1.mu hq.2.1 hq.2.2.1 hq.2.2.2.2, hne, hT, hB⟩)
theorem tw_undo (h : LI mem) : Tw yX8_undo cX8_undo 2 (some .int) 5 118 [pR 10008908 0] yX9_undo cX9_undo 2 (some .int) 0 0 [pR 10009909 0] mem := by
  obtain ⟨d, d', K, n, S, T, B, f, hC, hM, hne, hT, hB⟩ := h
  refine (sp_X8_undo hC.1).mono (fun r m1 hr => ⟨_, hr.1, ?_⟩)
  have hM1 := hM.fr hr.2.1 sCh_md
  have hC1 := hC.ch hr.2.1 hr.2.2
  have hB' : ∀ j, j + 1 = n → eqB K (S j) := fun j hj => by
    have := S_eqB hC.1.2.1 hj
    rw [hC.1.2.2.2.1] at this
    exact this
  exact (sp_X9_undo hM1.1 hB').mono (fun r m2 hq => ⟨hq.1, d, d', _, _, _, T, B, f, hC1.fr hq.2.1 sMU_md, hM1.mu hq.2.1 hq.2.2.1 hq.2.2.2.2, hne, hT, hB⟩)
theorem tw_feed (h : LI mem) (a b c dd e : Int32) : Tw yX8_feed cX8_feed 6 (some .int) 2 42 [pR 10008908 0, pI a, pI b, pI c, pI dd, pI e] yX9_feed cX9_feed 6 (some .int) 1 22 [pR 10009909 0, pI a, pI b, pI c, pI dd, pI e] mem := by
  obtain ⟨d0, d', K, n, S, T, B, f, hC, hM, hne, hT, hB⟩ := h
  refine (sp_X8_feed hC.2.2.1 hT a b c dd e).mono (fun r m1 hr => ⟨_, hr.1, ?_⟩)
  have hM1 := hM.fr hr.2.1 sTp_md
  refine (sp_X9_feed hM1.2.1 hT a b c dd e).mono (fun r m2 hq => ⟨hq.1, ?_⟩)
  by_cases z : T ≤ 820
  · have e1 := hr.2.2
    have e2 := hq.2.2.2
    rw [if_pos z] at e1 e2
    exact ⟨_, d', K, n, S, _, _, f, (hC.tp hr.2.1 e1).fr hq.2.1 sTm_md, hM1.tm hq.2.1 hq.2.2.1.1 e2, hne, by omega, fdB_lt hB⟩
  · have e1 := hr.2.2
    have e2 := hq.2.2.2
    rw [if_neg z] at e1 e2
    exact ⟨_, d', K, n, S, _, _, f, (hC.tp hr.2.1 e1).fr hq.2.1 sTm_md, hM1.tm hq.2.1 hq.2.2.1.1 e2, hne, hT, hB⟩
theorem tw_end (h : LI mem) (a : Int32) : Tw yX8_end cX8_end 2 (some .boolean) 0 0 [pR 10008908 0, pI a] yX9_end cX9_end 2 (some .boolean) 0 0 [pR 10009909 0, pI a] mem := by
  obtain ⟨d, d', K, n, S, T, B, f, hC, hM, hne, hT, hB⟩ := h
  refine (sp_X8_end hC.2.2.1 hT a).mono (fun r m1 hr => ⟨_, hr.1, ?_⟩)
  have hM1 := hM.fr hr.2.1 sTp_md
  refine (sp_X9_end hM1.2.1 hT a).mono (fun r m2 hq => ⟨hq.1, d, d', K, n, S, _, B, f, (hC.tp hr.2.1 hr.2.2).fr hq.2.1 sTm_md, hM1.tm hq.2.1 hq.2.2.1.1 hq.2.2.2, hne, ?_, hB⟩)
  rcases e : vix a (T + 1) with _ | k
  · exact hT
  · have := (vix_some (by omega) e).2
    show k ≤ 840
    omega
theorem tw_text (h : LI mem) : Tw yX8_text cX8_text 3 (some .int) 9 227 [pR 10008908 0] yX9_text cX9_text 3 (some .int) 6 138 [pR 10009909 0] mem := by
  obtain ⟨d, d', K, n, S, T, B, f, hC, hM, hne, hT, hB⟩ := h
  refine (sp_X8_text hC.2.2.1 hT hB hC.1 hC.2.1 hne).mono (fun r m1 hr => ?_)
  obtain ⟨res, hRd, hf, ht, hr⟩ := hr
  have hM1 := hM.fr hf sNM_md
  have h2 := sp_X9_text hM1.2.1 hT hB RI_k RI_0 (RI_B hT)
  rcases res with e | s
  · refine ⟨_, hr.1, h2.mono (fun r2 m2 hq => ?_)⟩
    obtain ⟨res2, hRd2, hf2, -, ht2, hq⟩ := hq
    cases hRd.det hRd2
    have hC1 : LC m1 d d' K n S 0 B (nI e.1) := ⟨hr.2.2.1, hr.2.2.2, ⟨ht, fun k hk => absurd hk (Nat.not_lt_zero k)⟩, hr.2.1⟩
    have es := hf2 20432373 0 (by simp [sMx])
    refine ⟨hq.1, d, d', K, n, S, 0, B, nI e.1, hC1.fr hf2 sMx_md, ⟨⟨?_, ⟨hq.2.2.1.trans hM1.1.2.1.1, fun j k hj hk => by rw [es.1]; exact hM1.1.2.1.2 j k hj hk⟩, hM1.1.2.2⟩, ⟨ht2, fun k hk => absurd hk (Nat.not_lt_zero k)⟩, hq.2.2.2⟩, hne, Nat.zero_le _, hB⟩
    refine ⟨fun k h1 h2 => ?_, fun k hk => ?_⟩
    · rw [hq.2.1]; exact hM1.1.1.1 k h1 h2
    · rw [hq.2.1]; exact hM1.1.1.2 k hk
  · refine ⟨_, hr.1, h2.mono (fun r2 m2 hq => ?_)⟩
    obtain ⟨res2, hRd2, hf2, -, ht2, hq⟩ := hq
    cases hRd.det hRd2
    have hC1 : LC m1 d' d s.K 0 (fun _ => s.K) 0 B 0 := ⟨hr.2.2.1, hr.2.2.2, ⟨ht, fun k hk => absurd hk (Nat.not_lt_zero k)⟩, hr.2.1⟩
    exact ⟨hq.1, d', d, s.K, 0, fun _ => s.K, 0, B, 0, hC1.fr hf2 sMx_md, ⟨⟨hq.2.1, ⟨hq.2.2.1, fun j k hj _ => absurd hj (Nat.not_lt_zero j)⟩, hr.2.2.1.2.2⟩, ⟨ht2, fun k hk => absurd hk (Nat.not_lt_zero k)⟩, hq.2.2.2⟩, fun z => hne z.symm, Nat.zero_le _, hB⟩
end TWO
