/-! the class: load, trip -/
section LTR
variable {mem : pm_M} {d : Nat} {K : Nat → Nat}
theorem thr_load1 : thr cX8_load 14 := ⟨dX8_load_14, dX8_load_17, dX8_load_20, dX8_load_23, 165, 9, _, dX8_load_18, rfl, rfl⟩
theorem thr_load2 : thr cX8_load 184 := ⟨dX8_load_184, dX8_load_187, dX8_load_190, dX8_load_193, 194, 10, _, dX8_load_188, rfl, rfl⟩
theorem thr_trip1 : thr cX8_trip 14 := ⟨dX8_trip_14, dX8_trip_17, dX8_trip_20, dX8_trip_23, 196, 11, _, dX8_trip_18, rfl, rfl⟩
theorem thr_trip2 : thr cX8_trip 208 := ⟨dX8_trip_208, dX8_trip_211, dX8_trip_214, dX8_trip_217, 225, 12, _, dX8_trip_212, rfl, rfl⟩
set_option maxRecDepth 100000 in
theorem sp_X8_load (h : IC mem d K) (hW : WF K) (l w : Int32) : Cx yX8_load cX8_load 3 (some .int) 6 82 [pR 10008908 0, pI l, pI w] mem (q_load K l w) := by
  have hI := h
  have h16 := hW.2.2.2.1
  have h12 := hW.2.1
  obtain ⟨h1, hd, hr, hG, hx, -, hA⟩ := h
  rcases ho : q_load K l w with _ | v
  · refine Cx.ofX rfl rfl (Nat.le_of_ble_eq_true rfl) rfl ⟨by omega, by omega⟩ ?_
    show PR _ _ _ _ _ _ [some _, some _, some _] _ _ _
    rcases hk : vix l (K 39) with _ | j
    · refine pr_iload_n 1 dX8_load_0 rfl rfl rfl ?_
      refine pr_aload_n 2 dX8_load_1 rfl rfl rfl ?_
      refine pr_getP d 5 dX8_load_2 fX8_52 h1 rfl ?_
      refine pr_getI 8 dX8_load_5 fX8_102 rfl ?_
      rw [hd.2.2.2.1]
      refine pr_ivsD2 11 dX8_load_8 sX8_129 mX8_isIn (sp_isInV _ (by omega)) ⟨Nat.le_of_ble_eq_true rfl, Nat.le_of_ble_eq_true rfl⟩ (Nat.le_of_ble_eq_true rfl) rfl ?_
      refine pr_if_ne 24 14 dX8_load_11 rfl rfl (fun c_11 => absurd (vb_n hk) (c_11)) (fun c_11 => ?_)
      exact PR.done ⟨thr_load1, rfl, rfl⟩
    · have hw : vix w 10 = none := by
        rcases hw : vix w 10 with _ | c
        · rfl
        · rw [q_load, hk, hw] at ho; cases ho
      obtain ⟨rfl, hj⟩ := vix_some (by omega) hk
      refine pr_iload_n 1 dX8_load_0 rfl rfl rfl ?_
      refine pr_aload_n 2 dX8_load_1 rfl rfl rfl ?_
      refine pr_getP d 5 dX8_load_2 fX8_52 h1 rfl ?_
      refine pr_getI 8 dX8_load_5 fX8_102 rfl ?_
      rw [hd.2.2.2.1]
      refine pr_ivsD2 11 dX8_load_8 sX8_129 mX8_isIn (sp_isInV _ (by omega)) ⟨Nat.le_of_ble_eq_true rfl, Nat.le_of_ble_eq_true rfl⟩ (Nat.le_of_ble_eq_true rfl) rfl ?_
      refine pr_if_ne 24 14 dX8_load_11 rfl rfl (fun c_11 => ?_) (fun c_11 => absurd (c_11) (vb_s hk))
      refine pr_iload_n 25 dX8_load_24 rfl rfl rfl ?_
      rcases sw_c w 9 (by omega) with h_sw | ⟨c_sw, h_sw, rfl⟩
      · refine pr_table 184 dX8_load_25 (Or.inl ⟨h_sw, rfl⟩) ?_
        exact PR.done ⟨thr_load2, rfl, rfl⟩
      · rcases (by omega : c_sw = 0 ∨ c_sw = 1 ∨ c_sw = 2 ∨ c_sw = 3 ∨ c_sw = 4 ∨ c_sw = 5 ∨ c_sw = 6 ∨ c_sw = 7 ∨ c_sw = 8 ∨ c_sw = 9) with rfl | rfl | rfl | rfl | rfl | rfl | rfl | rfl | rfl | rfl
        · refine pr_table 80 dX8_load_25 (Or.inr ⟨by decide, by decide, 55, rfl, rfl⟩) ?_
          exact absurd hw (by decide)
        · refine pr_table 90 dX8_load_25 (Or.inr ⟨by decide, by decide, 65, rfl, rfl⟩) ?_
          exact absurd hw (by decide)
        · refine pr_table 100 dX8_load_25 (Or.inr ⟨by decide, by decide, 75, rfl, rfl⟩) ?_
          exact absurd hw (by decide)
        · refine pr_table 110 dX8_load_25 (Or.inr ⟨by decide, by decide, 85, rfl, rfl⟩) ?_
          exact absurd hw (by decide)
        · refine pr_table 136 dX8_load_25 (Or.inr ⟨by decide, by decide, 111, rfl, rfl⟩) ?_
          exact absurd hw (by decide)
        · refine pr_table 142 dX8_load_25 (Or.inr ⟨by decide, by decide, 117, rfl, rfl⟩) ?_
          exact absurd hw (by decide)
        · refine pr_table 148 dX8_load_25 (Or.inr ⟨by decide, by decide, 123, rfl, rfl⟩) ?_
          exact absurd hw (by decide)
        · refine pr_table 158 dX8_load_25 (Or.inr ⟨by decide, by decide, 133, rfl, rfl⟩) ?_
          exact absurd hw (by decide)
        · refine pr_table 164 dX8_load_25 (Or.inr ⟨by decide, by decide, 139, rfl, rfl⟩) ?_
          exact absurd hw (by decide)
        · refine pr_table 174 dX8_load_25 (Or.inr ⟨by decide, by decide, 149, rfl, rfl⟩) ?_
          exact absurd hw (by decide)
  · refine Cx.ofR rfl rfl (Nat.le_of_ble_eq_true rfl) rfl ?_
    show PR _ _ _ _ _ _ [some _, some _, some _] _ _ _
    rcases hk : vix l (K 39) with _ | j
    · rw [q_load, hk] at ho; cases ho
    obtain ⟨rfl, hj⟩ := vix_some (by omega) hk
    obtain ⟨w1, w2, w3⟩ := hd.2.2.2.2.2.2.2.1 j hj
    obtain ⟨v1, v2, v3⟩ := hW.2.2.2.2.2.2.2.1 j hj
    obtain ⟨x1, x2, x3, x4⟩ := hx j hj
    have hv : ∀ c, vix w 10 = some c → v = nI (if c = 0 then K (20 + j) else if c = 1 then K (69 + j) else if c = 2 then K (85 + j) else if c = 3 then dd K (K (69 + j)) (K (85 + j)) else if c = 4 then tbs K j (K 40) else if c = 5 then sm (fun t => ptl K (aw K) ai t j) (K 40) else if c = 6 then shr K (aw K) ai (K 39) j else if c = 7 then due K j else if c = 8 then (gla K j).length else K (853 + j)) := fun c hc => by
      rw [q_load, hk, hc] at ho
      exact (Option.some.inj ho).symm
    refine pr_iload_n 1 dX8_load_0 rfl rfl rfl ?_
    refine pr_aload_n 2 dX8_load_1 rfl rfl rfl ?_
    refine pr_getP d 5 dX8_load_2 fX8_52 h1 rfl ?_
    refine pr_getI 8 dX8_load_5 fX8_102 rfl ?_
    rw [hd.2.2.2.1]
    refine pr_ivsD2 11 dX8_load_8 sX8_129 mX8_isIn (sp_isInV _ (by omega)) ⟨Nat.le_of_ble_eq_true rfl, Nat.le_of_ble_eq_true rfl⟩ (Nat.le_of_ble_eq_true rfl) rfl ?_
    refine pr_if_ne 24 14 dX8_load_11 rfl rfl (fun c_11 => ?_) (fun c_11 => absurd (c_11) (vb_s hk))
    refine pr_iload_n 25 dX8_load_24 rfl rfl rfl ?_
    rcases sw_c w 9 (by omega) with h_sw | ⟨c_sw, h_sw, rfl⟩
    · refine pr_table 184 dX8_load_25 (Or.inl ⟨h_sw, rfl⟩) ?_
      exfalso
      rw [q_load, hk, vix_out (n := 9) h_sw] at ho
      cases ho
    · rcases (by omega : c_sw = 0 ∨ c_sw = 1 ∨ c_sw = 2 ∨ c_sw = 3 ∨ c_sw = 4 ∨ c_sw = 5 ∨ c_sw = 6 ∨ c_sw = 7 ∨ c_sw = 8 ∨ c_sw = 9) with rfl | rfl | rfl | rfl | rfl | rfl | rfl | rfl | rfl | rfl
      · refine pr_table 80 dX8_load_25 (Or.inr ⟨by decide, by decide, 55, rfl, rfl⟩) ?_
        refine pr_aload_n 81 dX8_load_80 rfl rfl rfl ?_
        refine pr_getP d 84 dX8_load_81 fX8_52 h1 rfl ?_
        refine pr_getR0 87 dX8_load_84 fX8_170 rfl ?_
        refine pr_iload_n 88 dX8_load_87 rfl rfl rfl ?_
        refine pr_iaload j 89 dX8_load_88 rfl rfl rfl (by omega) rfl ?_
        rw [w1]
        refine pr_ireturn dX8_load_89 rfl ?_
        exact ⟨by rw [hv 0 (by decide)]; rfl, rfl⟩
      · refine pr_table 90 dX8_load_25 (Or.inr ⟨by decide, by decide, 65, rfl, rfl⟩) ?_
        refine pr_aload_n 91 dX8_load_90 rfl rfl rfl ?_
        refine pr_getP d 94 dX8_load_91 fX8_52 h1 rfl ?_
        refine pr_getR0 97 dX8_load_94 fX8_173 rfl ?_
        refine pr_iload_n 98 dX8_load_97 rfl rfl rfl ?_
        refine pr_iaload j 99 dX8_load_98 rfl rfl rfl (by omega) rfl ?_
        rw [w2]
        refine pr_ireturn dX8_load_99 rfl ?_
        exact ⟨by rw [hv 1 (by decide)]; rfl, rfl⟩
      · refine pr_table 100 dX8_load_25 (Or.inr ⟨by decide, by decide, 75, rfl, rfl⟩) ?_
        refine pr_aload_n 101 dX8_load_100 rfl rfl rfl ?_
        refine pr_getP d 104 dX8_load_101 fX8_52 h1 rfl ?_
        refine pr_getR0 107 dX8_load_104 fX8_176 rfl ?_
        refine pr_iload_n 108 dX8_load_107 rfl rfl rfl ?_
        refine pr_iaload j 109 dX8_load_108 rfl rfl rfl (by omega) rfl ?_
        rw [w3]
        refine pr_ireturn dX8_load_109 rfl ?_
        exact ⟨by rw [hv 2 (by decide)]; rfl, rfl⟩
      · refine pr_table 110 dX8_load_25 (Or.inr ⟨by decide, by decide, 85, rfl, rfl⟩) ?_
        refine pr_aload_n 111 dX8_load_110 rfl rfl rfl ?_
        refine pr_getP d 114 dX8_load_111 fX8_52 h1 rfl ?_
        refine pr_aload_n 115 dX8_load_114 rfl rfl rfl ?_
        refine pr_getP d 118 dX8_load_115 fX8_52 h1 rfl ?_
        refine pr_getR0 121 dX8_load_118 fX8_173 rfl ?_
        refine pr_iload_n 122 dX8_load_121 rfl rfl rfl ?_
        refine pr_iaload j 123 dX8_load_122 rfl rfl rfl (by omega) rfl ?_
        rw [w2]
        refine pr_aload_n 124 dX8_load_123 rfl rfl rfl ?_
        refine pr_getP d 127 dX8_load_124 fX8_52 h1 rfl ?_
        refine pr_getR0 130 dX8_load_127 fX8_176 rfl ?_
        refine pr_iload_n 131 dX8_load_130 rfl rfl rfl ?_
        refine pr_iaload j 132 dX8_load_131 rfl rfl rfl (by omega) rfl ?_
        rw [w3]
        refine pr_invD2 135 dX8_load_132 vX8_133 mX0_distance (hd.dist hW v2 v3) ⟨Nat.le_of_ble_eq_true rfl, Nat.le_of_ble_eq_true rfl⟩ (Nat.le_of_ble_eq_true rfl) rfl ?_
        refine pr_ireturn dX8_load_135 rfl ?_
        exact ⟨by rw [hv 3 (by decide)]; rfl, rfl⟩
      · refine pr_table 136 dX8_load_25 (Or.inr ⟨by decide, by decide, 111, rfl, rfl⟩) ?_
        refine pr_aload_n 137 dX8_load_136 rfl rfl rfl ?_
        refine pr_iload_n 138 dX8_load_137 rfl rfl rfl ?_
        refine pr_invD1 141 dX8_load_138 vX8_179 mX8_tripBitsOfLoad (sp_X8_tripBitsOfLoad hI hW hj) ⟨Nat.le_of_ble_eq_true rfl, Nat.le_of_ble_eq_true rfl⟩ (Nat.le_of_ble_eq_true rfl) rfl ?_
        refine pr_ireturn dX8_load_141 rfl ?_
        exact ⟨by rw [hv 4 (by decide)]; rfl, rfl⟩
      · refine pr_table 142 dX8_load_25 (Or.inr ⟨by decide, by decide, 117, rfl, rfl⟩) ?_
        refine pr_aload_n 143 dX8_load_142 rfl rfl rfl ?_
        refine pr_iload_n 144 dX8_load_143 rfl rfl rfl ?_
        refine pr_invD1 147 dX8_load_144 vX8_182 mX8_partsOfLoad (sp_X8_partsOfLoad hI hW hj) ⟨Nat.le_of_ble_eq_true rfl, Nat.le_of_ble_eq_true rfl⟩ (Nat.le_of_ble_eq_true rfl) rfl ?_
        refine pr_ireturn dX8_load_147 rfl ?_
        exact ⟨by rw [hv 5 (by decide)]; rfl, rfl⟩
      · refine pr_table 148 dX8_load_25 (Or.inr ⟨by decide, by decide, 123, rfl, rfl⟩) ?_
        refine pr_aload_n 149 dX8_load_148 rfl rfl rfl ?_
        refine pr_getR0 152 dX8_load_149 fX8_35 rfl ?_
        refine pr_getR0 155 dX8_load_152 fX8_116 rfl ?_
        refine pr_iload_n 156 dX8_load_155 rfl rfl rfl ?_
        refine pr_iaload j 157 dX8_load_156 rfl rfl rfl (by omega) rfl ?_
        rw [(hA.2.2.2.2.2 j hj).2]
        refine pr_ireturn dX8_load_157 rfl ?_
        exact ⟨by rw [hv 6 (by decide)]; rfl, rfl⟩
      · refine pr_table 158 dX8_load_25 (Or.inr ⟨by decide, by decide, 133, rfl, rfl⟩) ?_
        refine pr_aload_n 159 dX8_load_158 rfl rfl rfl ?_
        refine pr_iload_n 160 dX8_load_159 rfl rfl rfl ?_
        refine pr_invD1 163 dX8_load_160 vX8_185 mX8_due (sp_X8_due hI hW hj) ⟨Nat.le_of_ble_eq_true rfl, Nat.le_of_ble_eq_true rfl⟩ (Nat.le_of_ble_eq_true rfl) rfl ?_
        refine pr_ireturn dX8_load_163 rfl ?_
        exact ⟨by rw [hv 7 (by decide)]; rfl, rfl⟩
      · refine pr_table 164 dX8_load_25 (Or.inr ⟨by decide, by decide, 139, rfl, rfl⟩) ?_
        refine pr_aload_n 165 dX8_load_164 rfl rfl rfl ?_
        refine pr_getR0 168 dX8_load_165 fX8_28 rfl ?_
        refine pr_getR0 171 dX8_load_168 fX8_188 rfl ?_
        refine pr_iload_n 172 dX8_load_171 rfl rfl rfl ?_
        refine pr_iaload j 173 dX8_load_172 rfl rfl rfl (by omega) rfl ?_
        rw [x1]
        refine pr_ireturn dX8_load_173 rfl ?_
        exact ⟨by rw [hv 8 (by decide)]; rfl, rfl⟩
      · refine pr_table 174 dX8_load_25 (Or.inr ⟨by decide, by decide, 149, rfl, rfl⟩) ?_
        refine pr_aload_n 175 dX8_load_174 rfl rfl rfl ?_
        refine pr_getR0 178 dX8_load_175 fX8_28 rfl ?_
        refine pr_getR0 181 dX8_load_178 fX8_191 rfl ?_
        refine pr_iload_n 182 dX8_load_181 rfl rfl rfl ?_
        refine pr_iaload j 183 dX8_load_182 rfl rfl rfl (by omega) rfl ?_
        rw [x3]
        refine pr_ireturn dX8_load_183 rfl ?_
        exact ⟨by rw [hv 9 (by decide)]; rfl, rfl⟩
set_option maxRecDepth 100000 in
theorem sp_X8_trip (h : IC mem d K) (hW : WF K) (l w : Int32) : Cx yX8_trip cX8_trip 3 (some .int) 6 82 [pR 10008908 0, pI l, pI w] mem (q_trip K l w) := by
  have hI := h
  have h16 := hW.2.2.2.2.1
  obtain ⟨h1, hd, hR, hG, hx, -, hA⟩ := h
  rcases ho : q_trip K l w with _ | v
  · refine Cx.ofX rfl rfl (Nat.le_of_ble_eq_true rfl) rfl ⟨by omega, by omega⟩ ?_
    show PR _ _ _ _ _ _ [some _, some _, some _] _ _ _
    rcases hk : vix l (K 40) with _ | j
    · refine pr_iload_n 1 dX8_trip_0 rfl rfl rfl ?_
      refine pr_aload_n 2 dX8_trip_1 rfl rfl rfl ?_
      refine pr_getP d 5 dX8_trip_2 fX8_52 h1 rfl ?_
      refine pr_getI 8 dX8_trip_5 fX8_105 rfl ?_
      rw [hd.2.2.2.2.1]
      refine pr_ivsD2 11 dX8_trip_8 sX8_129 mX8_isIn (sp_isInV _ (by omega)) ⟨Nat.le_of_ble_eq_true rfl, Nat.le_of_ble_eq_true rfl⟩ (Nat.le_of_ble_eq_true rfl) rfl ?_
      refine pr_if_ne 24 14 dX8_trip_11 rfl rfl (fun c_11 => absurd (vb_n hk) (c_11)) (fun c_11 => ?_)
      exact PR.done ⟨thr_trip1, rfl, rfl⟩
    · have hw : vix w 12 = none := by
        rcases hw : vix w 12 with _ | c
        · rfl
        · rw [q_trip, hk, hw] at ho; cases ho
      obtain ⟨rfl, hj⟩ := vix_some (by omega) hk
      refine pr_iload_n 1 dX8_trip_0 rfl rfl rfl ?_
      refine pr_aload_n 2 dX8_trip_1 rfl rfl rfl ?_
      refine pr_getP d 5 dX8_trip_2 fX8_52 h1 rfl ?_
      refine pr_getI 8 dX8_trip_5 fX8_105 rfl ?_
      rw [hd.2.2.2.2.1]
      refine pr_ivsD2 11 dX8_trip_8 sX8_129 mX8_isIn (sp_isInV _ (by omega)) ⟨Nat.le_of_ble_eq_true rfl, Nat.le_of_ble_eq_true rfl⟩ (Nat.le_of_ble_eq_true rfl) rfl ?_
      refine pr_if_ne 24 14 dX8_trip_11 rfl rfl (fun c_11 => ?_) (fun c_11 => absurd (c_11) (vb_s hk))
      refine pr_iload_n 25 dX8_trip_24 rfl rfl rfl ?_
      rcases sw_c w 11 (by omega) with h_sw | ⟨c_sw, h_sw, rfl⟩
      · refine pr_table 208 dX8_trip_25 (Or.inl ⟨h_sw, rfl⟩) ?_
        exact PR.done ⟨thr_trip2, rfl, rfl⟩
      · rcases (by omega : c_sw = 0 ∨ c_sw = 1 ∨ c_sw = 2 ∨ c_sw = 3 ∨ c_sw = 4 ∨ c_sw = 5 ∨ c_sw = 6 ∨ c_sw = 7 ∨ c_sw = 8 ∨ c_sw = 9 ∨ c_sw = 10 ∨ c_sw = 11) with rfl | rfl | rfl | rfl | rfl | rfl | rfl | rfl | rfl | rfl | rfl | rfl
        · refine pr_table 88 dX8_trip_25 (Or.inr ⟨by decide, by decide, 63, rfl, rfl⟩) ?_
          exact absurd hw (by decide)
        · refine pr_table 98 dX8_trip_25 (Or.inr ⟨by decide, by decide, 73, rfl, rfl⟩) ?_
          exact absurd hw (by decide)
        · refine pr_table 108 dX8_trip_25 (Or.inr ⟨by decide, by decide, 83, rfl, rfl⟩) ?_
          exact absurd hw (by decide)
        · refine pr_table 118 dX8_trip_25 (Or.inr ⟨by decide, by decide, 93, rfl, rfl⟩) ?_
          exact absurd hw (by decide)
        · refine pr_table 128 dX8_trip_25 (Or.inr ⟨by decide, by decide, 103, rfl, rfl⟩) ?_
          exact absurd hw (by decide)
        · refine pr_table 138 dX8_trip_25 (Or.inr ⟨by decide, by decide, 113, rfl, rfl⟩) ?_
          exact absurd hw (by decide)
        · refine pr_table 148 dX8_trip_25 (Or.inr ⟨by decide, by decide, 123, rfl, rfl⟩) ?_
          exact absurd hw (by decide)
        · refine pr_table 158 dX8_trip_25 (Or.inr ⟨by decide, by decide, 133, rfl, rfl⟩) ?_
          exact absurd hw (by decide)
        · refine pr_table 168 dX8_trip_25 (Or.inr ⟨by decide, by decide, 143, rfl, rfl⟩) ?_
          exact absurd hw (by decide)
        · refine pr_table 178 dX8_trip_25 (Or.inr ⟨by decide, by decide, 153, rfl, rfl⟩) ?_
          exact absurd hw (by decide)
        · refine pr_table 188 dX8_trip_25 (Or.inr ⟨by decide, by decide, 163, rfl, rfl⟩) ?_
          exact absurd hw (by decide)
        · refine pr_table 198 dX8_trip_25 (Or.inr ⟨by decide, by decide, 173, rfl, rfl⟩) ?_
          exact absurd hw (by decide)
  · refine Cx.ofR rfl rfl (Nat.le_of_ble_eq_true rfl) rfl ?_
    show PR _ _ _ _ _ _ [some _, some _, some _] _ _ _
    rcases hk : vix l (K 40) with _ | j
    · rw [q_trip, hk] at ho; cases ho
    obtain ⟨rfl, hj⟩ := vix_some (by omega) hk
    obtain ⟨w1, w2, w3⟩ := hd.2.2.2.2.2.2.2.2 j hj
    obtain ⟨r1, r2, r3, r4⟩ := hR.1 j hj
    obtain ⟨a1, a2, a3, a4, a5, a6⟩ := hA
    obtain ⟨b1, b2, b3⟩ := a4 j hj
    have hv : ∀ c, vix w 12 = some c → v = (if c = 0 then nI (K (101 + 6 * j)) else if c = 1 then nI (K (4 + j)) - 1 else if c = 2 then nI (K (102 + 6 * j)) else if c = 3 then nI (K (103 + 6 * j)) else if c = 4 then nI (K (106 + 6 * j)) else if c = 5 then nI (pts K (aw K) ai (K 39) j) else if c = 6 then nI (est K j) else if c = 7 then nI (cld K j) else if c = 8 then nI (gvn K (aw K) ai (K 39) j) else if c = 9 then onI (if idl K (aw K) ai (K 39) j = true then hr K (aw K) ai (K 39) j else none) else if c = 10 then nI (K (104 + 6 * j)) else nI (K (105 + 6 * j))) := fun c hc => by
      rw [q_trip, hk, hc] at ho
      exact (Option.some.inj ho).symm
    refine pr_iload_n 1 dX8_trip_0 rfl rfl rfl ?_
    refine pr_aload_n 2 dX8_trip_1 rfl rfl rfl ?_
    refine pr_getP d 5 dX8_trip_2 fX8_52 h1 rfl ?_
    refine pr_getI 8 dX8_trip_5 fX8_105 rfl ?_
    rw [hd.2.2.2.2.1]
    refine pr_ivsD2 11 dX8_trip_8 sX8_129 mX8_isIn (sp_isInV _ (by omega)) ⟨Nat.le_of_ble_eq_true rfl, Nat.le_of_ble_eq_true rfl⟩ (Nat.le_of_ble_eq_true rfl) rfl ?_
    refine pr_if_ne 24 14 dX8_trip_11 rfl rfl (fun c_11 => ?_) (fun c_11 => absurd (c_11) (vb_s hk))
    refine pr_iload_n 25 dX8_trip_24 rfl rfl rfl ?_
    rcases sw_c w 11 (by omega) with h_sw | ⟨c_sw, h_sw, rfl⟩
    · refine pr_table 208 dX8_trip_25 (Or.inl ⟨h_sw, rfl⟩) ?_
      exfalso
      rw [q_trip, hk, vix_out (n := 11) h_sw] at ho
      cases ho
    · rcases (by omega : c_sw = 0 ∨ c_sw = 1 ∨ c_sw = 2 ∨ c_sw = 3 ∨ c_sw = 4 ∨ c_sw = 5 ∨ c_sw = 6 ∨ c_sw = 7 ∨ c_sw = 8 ∨ c_sw = 9 ∨ c_sw = 10 ∨ c_sw = 11) with rfl | rfl | rfl | rfl | rfl | rfl | rfl | rfl | rfl | rfl | rfl | rfl
      · refine pr_table 88 dX8_trip_25 (Or.inr ⟨by decide, by decide, 63, rfl, rfl⟩) ?_
        refine pr_aload_n 89 dX8_trip_88 rfl rfl rfl ?_
        refine pr_getP d 92 dX8_trip_89 fX8_52 h1 rfl ?_
        refine pr_getR0 95 dX8_trip_92 fX8_198 rfl ?_
        refine pr_iload_n 96 dX8_trip_95 rfl rfl rfl ?_
        refine pr_iaload j 97 dX8_trip_96 rfl rfl rfl (by omega) rfl ?_
        rw [w1]
        refine pr_ireturn dX8_trip_97 rfl ?_
        exact ⟨by rw [hv 0 (by decide)]; rfl, rfl⟩
      · refine pr_table 98 dX8_trip_25 (Or.inr ⟨by decide, by decide, 73, rfl, rfl⟩) ?_
        refine pr_aload_n 99 dX8_trip_98 rfl rfl rfl ?_
        refine pr_getP d 102 dX8_trip_99 fX8_52 h1 rfl ?_
        refine pr_getR0 105 dX8_trip_102 fX8_201 rfl ?_
        refine pr_iload_n 106 dX8_trip_105 rfl rfl rfl ?_
        refine pr_iaload j 107 dX8_trip_106 rfl rfl rfl (by omega) rfl ?_
        rw [w2]
        refine pr_ireturn dX8_trip_107 rfl ?_
        exact ⟨by rw [hv 1 (by decide)]; rfl, rfl⟩
      · refine pr_table 108 dX8_trip_25 (Or.inr ⟨by decide, by decide, 83, rfl, rfl⟩) ?_
        refine pr_aload_n 109 dX8_trip_108 rfl rfl rfl ?_
        refine pr_getR0 112 dX8_trip_109 fX8_28 rfl ?_
        refine pr_getR0 115 dX8_trip_112 fX8_144 rfl ?_
        refine pr_iload_n 116 dX8_trip_115 rfl rfl rfl ?_
        refine pr_iaload j 117 dX8_trip_116 rfl rfl rfl (by omega) rfl ?_
        rw [r1]
        refine pr_ireturn dX8_trip_117 rfl ?_
        exact ⟨by rw [hv 2 (by decide)]; rfl, rfl⟩
      · refine pr_table 118 dX8_trip_25 (Or.inr ⟨by decide, by decide, 93, rfl, rfl⟩) ?_
        refine pr_aload_n 119 dX8_trip_118 rfl rfl rfl ?_
        refine pr_getR0 122 dX8_trip_119 fX8_28 rfl ?_
        refine pr_getR0 125 dX8_trip_122 fX8_151 rfl ?_
        refine pr_iload_n 126 dX8_trip_125 rfl rfl rfl ?_
        refine pr_iaload j 127 dX8_trip_126 rfl rfl rfl (by omega) rfl ?_
        rw [r2]
        refine pr_ireturn dX8_trip_127 rfl ?_
        exact ⟨by rw [hv 3 (by decide)]; rfl, rfl⟩
      · refine pr_table 128 dX8_trip_25 (Or.inr ⟨by decide, by decide, 103, rfl, rfl⟩) ?_
        refine pr_aload_n 129 dX8_trip_128 rfl rfl rfl ?_
        refine pr_getR0 132 dX8_trip_129 fX8_28 rfl ?_
        refine pr_getR0 135 dX8_trip_132 fX8_204 rfl ?_
        refine pr_iload_n 136 dX8_trip_135 rfl rfl rfl ?_
        refine pr_iaload j 137 dX8_trip_136 rfl rfl rfl (by omega) rfl ?_
        rw [r4]
        refine pr_ireturn dX8_trip_137 rfl ?_
        exact ⟨by rw [hv 4 (by decide)]; rfl, rfl⟩
      · refine pr_table 138 dX8_trip_25 (Or.inr ⟨by decide, by decide, 113, rfl, rfl⟩) ?_
        refine pr_aload_n 139 dX8_trip_138 rfl rfl rfl ?_
        refine pr_getR0 142 dX8_trip_139 fX8_35 rfl ?_
        refine pr_getR0 145 dX8_trip_142 fX8_207 rfl ?_
        refine pr_iload_n 146 dX8_trip_145 rfl rfl rfl ?_
        refine pr_iaload j 147 dX8_trip_146 rfl rfl rfl (by omega) rfl ?_
        rw [(a3 j hj).1]
        refine pr_ireturn dX8_trip_147 rfl ?_
        exact ⟨by rw [hv 5 (by decide)]; rfl, rfl⟩
      · refine pr_table 148 dX8_trip_25 (Or.inr ⟨by decide, by decide, 123, rfl, rfl⟩) ?_
        refine pr_aload_n 149 dX8_trip_148 rfl rfl rfl ?_
        refine pr_getR0 152 dX8_trip_149 fX8_35 rfl ?_
        refine pr_getR0 155 dX8_trip_152 fX8_160 rfl ?_
        refine pr_iload_n 156 dX8_trip_155 rfl rfl rfl ?_
        refine pr_iaload j 157 dX8_trip_156 rfl rfl rfl (by omega) rfl ?_
        rw [a1 j hj]
        refine pr_ireturn dX8_trip_157 rfl ?_
        exact ⟨by rw [hv 6 (by decide)]; rfl, rfl⟩
      · refine pr_table 158 dX8_trip_25 (Or.inr ⟨by decide, by decide, 133, rfl, rfl⟩) ?_
        refine pr_aload_n 159 dX8_trip_158 rfl rfl rfl ?_
        refine pr_getR0 162 dX8_trip_159 fX8_35 rfl ?_
        refine pr_getR0 165 dX8_trip_162 fX8_210 rfl ?_
        refine pr_iload_n 166 dX8_trip_165 rfl rfl rfl ?_
        refine pr_iaload j 167 dX8_trip_166 rfl rfl rfl (by omega) rfl ?_
        rw [a2 j hj]
        refine pr_ireturn dX8_trip_167 rfl ?_
        exact ⟨by rw [hv 7 (by decide)]; rfl, rfl⟩
      · refine pr_table 168 dX8_trip_25 (Or.inr ⟨by decide, by decide, 143, rfl, rfl⟩) ?_
        refine pr_aload_n 169 dX8_trip_168 rfl rfl rfl ?_
        refine pr_getR0 172 dX8_trip_169 fX8_35 rfl ?_
        refine pr_getR0 175 dX8_trip_172 fX8_213 rfl ?_
        refine pr_iload_n 176 dX8_trip_175 rfl rfl rfl ?_
        refine pr_iaload j 177 dX8_trip_176 rfl rfl rfl (by omega) rfl ?_
        rw [b2]
        refine pr_ireturn dX8_trip_177 rfl ?_
        exact ⟨by rw [hv 8 (by decide)]; rfl, rfl⟩
      · refine pr_table 178 dX8_trip_25 (Or.inr ⟨by decide, by decide, 153, rfl, rfl⟩) ?_
        refine pr_aload_n 179 dX8_trip_178 rfl rfl rfl ?_
        refine pr_getR0 182 dX8_trip_179 fX8_35 rfl ?_
        refine pr_getR0 185 dX8_trip_182 fX8_216 rfl ?_
        refine pr_iload_n 186 dX8_trip_185 rfl rfl rfl ?_
        refine pr_iaload j 187 dX8_trip_186 rfl rfl rfl (by omega) rfl ?_
        rw [b1]
        refine pr_ireturn dX8_trip_187 rfl ?_
        exact ⟨by rw [hv 9 (by decide)]; rfl, rfl⟩
      · refine pr_table 188 dX8_trip_25 (Or.inr ⟨by decide, by decide, 163, rfl, rfl⟩) ?_
        refine pr_aload_n 189 dX8_trip_188 rfl rfl rfl ?_
        refine pr_getP d 192 dX8_trip_189 fX8_52 h1 rfl ?_
        refine pr_getR0 195 dX8_trip_192 fX8_219 rfl ?_
        refine pr_iload_n 196 dX8_trip_195 rfl rfl rfl ?_
        refine pr_iaload j 197 dX8_trip_196 rfl rfl rfl (by omega) rfl ?_
        rw [w3]
        refine pr_ireturn dX8_trip_197 rfl ?_
        exact ⟨by rw [hv 10 (by decide)]; rfl, rfl⟩
      · refine pr_table 198 dX8_trip_25 (Or.inr ⟨by decide, by decide, 173, rfl, rfl⟩) ?_
        refine pr_aload_n 199 dX8_trip_198 rfl rfl rfl ?_
        refine pr_getR0 202 dX8_trip_199 fX8_28 rfl ?_
        refine pr_getR0 205 dX8_trip_202 fX8_222 rfl ?_
        refine pr_iload_n 206 dX8_trip_205 rfl rfl rfl ?_
        refine pr_iaload j 207 dX8_trip_206 rfl rfl rfl (by omega) rfl ?_
        rw [r3]
        refine pr_ireturn dX8_trip_207 rfl ?_
        exact ⟨by rw [hv 11 (by decide)]; rfl, rfl⟩
end LTR
