section LAW
variable {X : zX} {E : zE} {Q : State → Prop} {sz : Nat} {M : zM} {b n B m i : Nat} {xs : Nat → Int32}
set_option maxHeartbeats 4000000 in
theorem law_0 (C : zC X E code R_law 4 (some .boolean) room_1) (hX : va_X b n xs X.2.2.2.2.1 X.2.2.2.2.1.heap) (hbl : b < X.2.2.2.2.1.heap.size) (hbA : ¬ E.2.2.1 b) (hn : n ≤ 2048) (hm : m = B + 312) (hi : i + 4 ≤ n) {s : St} (hs : zse E M B s) (hr : mst E M m s) (kk : ∀ (M' : zM) (s' : St), zse E M' B s' → mst E M' m s' → Z X E 4 Q 400 6000 sz M' 503 [(0, .ref b), (1, .ref B), (2, .ref m), (3, .int (nI i))] []) : Z X E 4 Q 400 6000 sz M 108 [(0, .ref b), (1, .ref B), (2, .ref m), (3, .int (nI i))] [] := by
  obtain ⟨cs, fs, ss, nb, sc, bad⟩ := s
  refine z_aload_n C d_Lw_law_108 rfl rfl ?_
  refine z_aload_n C d_Lw_law_109 rfl rfl ?_
  refine z_iload_n C d_Lw_law_110 rfl rfl ?_
  refine z_iconst (v := 1) C d_Lw_law_111 (by decide) ?_
  refine z_iadd C d_Lw_law_112 ?_
  refine z_scd C hX hbl hbA (i + 1) (nI_add i 1) (by omega) (by omega) d_Lw_law_113 ?_
  obtain ⟨vs_114, hc_114⟩ := (zse_c hs)
  refine z_callV (rest := []) (n := 1) (As := [.int (xs (i + 1))]) C (s_type E X.2.1 _ _ hs (xs (i + 1))) ⟨z_cb C k_S_type ml_Lw_13 ii_S rfl rfl (by decide +kernel) ⟨by decide, by decide⟩, C.2.2.2.2.1 _ im_S_type, C.2.2.2.2.1 _ se_S_type⟩ hc_114 rfl rfl rfl (Nat.le_of_ble_eq_true rfl) d_Lw_law_114 ⟨by decide, by decide⟩ ?_
  intro v_114 s_114 M_114 hp_114
  obtain ⟨rfl, rfl, ho_114, hs_114⟩ := hp_114
  have hr_114 := mst_o hr ho_114 (by omega)
  show Z _ _ _ _ _ _ _ _ 117 _ [.int ((q_type (xs (i + 1)) (cs, fs, ss, nb, sc, bad)).1)]
  refine z_aload_n C d_Lw_law_117 rfl rfl ?_
  refine z_aload_n C d_Lw_law_118 rfl rfl ?_
  refine z_iload_n C d_Lw_law_119 rfl rfl ?_
  refine z_iconst (v := 1) C d_Lw_law_120 (by decide) ?_
  refine z_iadd C d_Lw_law_121 ?_
  refine z_scd C hX hbl hbA (i + 1) (nI_add i 1) (by omega) (by omega) d_Lw_law_122 ?_
  obtain ⟨vs_123, hc_123⟩ := (mst_c hr_114)
  refine z_callV (rest := [.int ((q_type (xs (i + 1)) (cs, fs, ss, nb, sc, bad)).1)]) (n := 1) (As := [.int (xs (i + 1))]) C (m_type E X.2.1 _ _ hr_114 (xs (i + 1))) ⟨z_cb C k_M_type ml_Lw_17 ii_M rfl rfl (by decide +kernel) ⟨by decide, by decide⟩, C.2.2.2.2.1 _ im_M_type, C.2.2.2.2.1 _ se_M_type⟩ hc_123 rfl rfl rfl (Nat.le_of_ble_eq_true rfl) d_Lw_law_123 ⟨by decide, by decide⟩ ?_
  intro v_123 s_123 M_123 hp_123
  obtain ⟨rfl, rfl, ho_123, hr_123⟩ := hp_123
  have hs_123 := zse_o hs_114 ho_123 (by omega)
  show Z _ _ _ _ _ _ _ _ 126 _ [.int ((q_type (xs (i + 1)) (cs, fs, ss, nb, sc, bad)).1), .int ((q_type (xs (i + 1)) (cs, fs, ss, nb, sc, bad)).1)]
  refine z_icmp_eq (tgt := 503) C d_Lw_law_126 (by decide) (fun _ => ?_) (fun c_126 => absurd (rfl) c_126)
  exact kk _ _ hs_123 hr_123
set_option maxHeartbeats 4000000 in
theorem law_1 (C : zC X E code R_law 4 (some .boolean) room_1) (hX : va_X b n xs X.2.2.2.2.1 X.2.2.2.2.1.heap) (hbl : b < X.2.2.2.2.1.heap.size) (hbA : ¬ E.2.2.1 b) (hn : n ≤ 2048) (hm : m = B + 312) (hi : i + 4 ≤ n) {s : St} (hs : zse E M B s) (hr : mst E M m s) (kk : ∀ (M' : zM) (s' : St), zse E M' B s' → mst E M' m s' → Z X E 4 Q 400 6000 sz M' 503 [(0, .ref b), (1, .ref B), (2, .ref m), (3, .int (nI i))] []) : Z X E 4 Q 400 6000 sz M 131 [(0, .ref b), (1, .ref B), (2, .ref m), (3, .int (nI i))] [] := by
  obtain ⟨cs, fs, ss, nb, sc, bad⟩ := s
  refine z_aload_n C d_Lw_law_131 rfl rfl ?_
  refine z_aload_n C d_Lw_law_132 rfl rfl ?_
  refine z_iload_n C d_Lw_law_133 rfl rfl ?_
  refine z_iconst (v := 1) C d_Lw_law_134 (by decide) ?_
  refine z_iadd C d_Lw_law_135 ?_
  refine z_scd C hX hbl hbA (i + 1) (nI_add i 1) (by omega) (by omega) d_Lw_law_136 ?_
  refine z_i2l (v := (xs (i + 1)).toInt64) C d_Lw_law_137 rfl ?_
  refine z_bipush (v := 32) C d_Lw_law_138 (by decide) ?_
  refine z_lshl (v := ((xs (i + 1)).toInt64) <<< (Int32.toInt64 32 &&& 63)) C d_Lw_law_140 rfl ?_
  refine z_aload_n C d_Lw_law_141 rfl rfl ?_
  refine z_iload_n C d_Lw_law_142 rfl rfl ?_
  refine z_iconst (v := 2) C d_Lw_law_143 (by decide) ?_
  refine z_iadd C d_Lw_law_144 ?_
  refine z_scd C hX hbl hbA (i + 2) (nI_add i 2) (by omega) (by omega) d_Lw_law_145 ?_
  refine z_i2l (v := (xs (i + 2)).toInt64) C d_Lw_law_146 rfl ?_
  refine z_ldc2 C kl_Lw_18 d_Lw_law_147 ?_
  refine z_land C d_Lw_law_150 ?_
  refine z_lor C d_Lw_law_151 ?_
  obtain ⟨vs_152, hc_152⟩ := (zse_c hs)
  refine z_callV (rest := []) (n := 1) (As := [.long ((((xs (i + 1)).toInt64) <<< (Int32.toInt64 32 &&& 63)) ||| (((xs (i + 2)).toInt64) &&& 4294967295))]) C (s_types E X.2.1 _ _ hs ((((xs (i + 1)).toInt64) <<< (Int32.toInt64 32 &&& 63)) ||| (((xs (i + 2)).toInt64) &&& 4294967295))) ⟨z_cb C k_S_types ml_Lw_20 ii_S rfl rfl (by decide +kernel) ⟨by decide, by decide⟩, C.2.2.2.2.1 _ im_S_types, C.2.2.2.2.1 _ se_S_types⟩ hc_152 rfl rfl rfl (Nat.le_of_ble_eq_true rfl) d_Lw_law_152 ⟨by decide, by decide⟩ ?_
  intro v_152 s_152 M_152 hp_152
  obtain ⟨rfl, rfl, ho_152, hs_152⟩ := hp_152
  have hr_152 := mst_o hr ho_152 (by omega)
  show Z _ _ _ _ _ _ _ _ 155 _ [.int ((q_tys ((((xs (i + 1)).toInt64) <<< (Int32.toInt64 32 &&& 63)) ||| (((xs (i + 2)).toInt64) &&& 4294967295)) 8 (cs, fs, ss, nb, sc, bad)).1)]
  refine z_aload_n C d_Lw_law_155 rfl rfl ?_
  refine z_aload_n C d_Lw_law_156 rfl rfl ?_
  refine z_iload_n C d_Lw_law_157 rfl rfl ?_
  refine z_iconst (v := 1) C d_Lw_law_158 (by decide) ?_
  refine z_iadd C d_Lw_law_159 ?_
  refine z_scd C hX hbl hbA (i + 1) (nI_add i 1) (by omega) (by omega) d_Lw_law_160 ?_
  refine z_i2l (v := (xs (i + 1)).toInt64) C d_Lw_law_161 rfl ?_
  refine z_bipush (v := 32) C d_Lw_law_162 (by decide) ?_
  refine z_lshl (v := ((xs (i + 1)).toInt64) <<< (Int32.toInt64 32 &&& 63)) C d_Lw_law_164 rfl ?_
  refine z_aload_n C d_Lw_law_165 rfl rfl ?_
  refine z_iload_n C d_Lw_law_166 rfl rfl ?_
  refine z_iconst (v := 2) C d_Lw_law_167 (by decide) ?_
  refine z_iadd C d_Lw_law_168 ?_
  refine z_scd C hX hbl hbA (i + 2) (nI_add i 2) (by omega) (by omega) d_Lw_law_169 ?_
  refine z_i2l (v := (xs (i + 2)).toInt64) C d_Lw_law_170 rfl ?_
  refine z_ldc2 C kl_Lw_18 d_Lw_law_171 ?_
  refine z_land C d_Lw_law_174 ?_
  refine z_lor C d_Lw_law_175 ?_
  obtain ⟨vs_176, hc_176⟩ := (mst_c hr_152)
  refine z_callV (rest := [.int ((q_tys ((((xs (i + 1)).toInt64) <<< (Int32.toInt64 32 &&& 63)) ||| (((xs (i + 2)).toInt64) &&& 4294967295)) 8 (cs, fs, ss, nb, sc, bad)).1)]) (n := 1) (As := [.long ((((xs (i + 1)).toInt64) <<< (Int32.toInt64 32 &&& 63)) ||| (((xs (i + 2)).toInt64) &&& 4294967295))]) C (m_types E X.2.1 _ _ hr_152 ((((xs (i + 1)).toInt64) <<< (Int32.toInt64 32 &&& 63)) ||| (((xs (i + 2)).toInt64) &&& 4294967295))) ⟨z_cb C k_M_types ml_Lw_24 ii_M rfl rfl (by decide +kernel) ⟨by decide, by decide⟩, C.2.2.2.2.1 _ im_M_types, C.2.2.2.2.1 _ se_M_types⟩ hc_176 rfl rfl rfl (Nat.le_of_ble_eq_true rfl) d_Lw_law_176 ⟨by decide, by decide⟩ ?_
  intro v_176 s_176 M_176 hp_176
  obtain ⟨rfl, rfl, ho_176, hr_176⟩ := hp_176
  have hs_176 := zse_o hs_152 ho_176 (by omega)
  show Z _ _ _ _ _ _ _ _ 179 _ [.int ((q_tys ((((xs (i + 1)).toInt64) <<< (Int32.toInt64 32 &&& 63)) ||| (((xs (i + 2)).toInt64) &&& 4294967295)) 8 (cs, fs, ss, nb, sc, bad)).1), .int ((q_tys ((((xs (i + 1)).toInt64) <<< (Int32.toInt64 32 &&& 63)) ||| (((xs (i + 2)).toInt64) &&& 4294967295)) 8 (cs, fs, ss, nb, sc, bad)).1)]
  refine z_icmp_eq (tgt := 503) C d_Lw_law_179 (by decide) (fun _ => ?_) (fun c_179 => absurd (rfl) c_179)
  exact kk _ _ hs_176 hr_176
set_option maxHeartbeats 4000000 in
theorem law_2 (C : zC X E code R_law 4 (some .boolean) room_1) (hX : va_X b n xs X.2.2.2.2.1 X.2.2.2.2.1.heap) (hbl : b < X.2.2.2.2.1.heap.size) (hbA : ¬ E.2.2.1 b) (hn : n ≤ 2048) (hm : m = B + 312) (hi : i + 4 ≤ n) {s : St} (hs : zse E M B s) (hr : mst E M m s) (kk : ∀ (M' : zM) (s' : St), zse E M' B s' → mst E M' m s' → Z X E 4 Q 400 6000 sz M' 503 [(0, .ref b), (1, .ref B), (2, .ref m), (3, .int (nI i))] []) : Z X E 4 Q 400 6000 sz M 184 [(0, .ref b), (1, .ref B), (2, .ref m), (3, .int (nI i))] [] := by
  obtain ⟨cs, fs, ss, nb, sc, bad⟩ := s
  refine z_aload_n C d_Lw_law_184 rfl rfl ?_
  obtain ⟨vs_185, hc_185⟩ := (zse_c hs)
  refine z_callV (rest := []) (n := 0) (As := []) C (s_back E X.2.1 _ _ hs ) ⟨z_cb C k_S_back ml_Lw_25 ii_S rfl rfl (by decide +kernel) ⟨by decide, by decide⟩, C.2.2.2.2.1 _ im_S_back, C.2.2.2.2.1 _ se_S_back⟩ hc_185 rfl rfl rfl (Nat.le_of_ble_eq_true rfl) d_Lw_law_185 ⟨by decide, by decide⟩ ?_
  intro v_185 s_185 M_185 hp_185
  obtain ⟨rfl, rfl, ho_185, hs_185⟩ := hp_185
  have hr_185 := mst_o hr ho_185 (by omega)
  show Z _ _ _ _ _ _ _ _ 188 _ [.int ((q_back (cs, fs, ss, nb, sc, bad)).1)]
  refine z_aload_n C d_Lw_law_188 rfl rfl ?_
  obtain ⟨vs_189, hc_189⟩ := (mst_c hr_185)
  refine z_callV (rest := [.int ((q_back (cs, fs, ss, nb, sc, bad)).1)]) (n := 0) (As := []) C (m_back E X.2.1 _ _ hr_185 ) ⟨z_cb C k_M_back ml_Lw_29 ii_M rfl rfl (by decide +kernel) ⟨by decide, by decide⟩, C.2.2.2.2.1 _ im_M_back, C.2.2.2.2.1 _ se_M_back⟩ hc_189 rfl rfl rfl (Nat.le_of_ble_eq_true rfl) d_Lw_law_189 ⟨by decide, by decide⟩ ?_
  intro v_189 s_189 M_189 hp_189
  obtain ⟨rfl, rfl, ho_189, hr_189⟩ := hp_189
  have hs_189 := zse_o hs_185 ho_189 (by omega)
  show Z _ _ _ _ _ _ _ _ 192 _ [.int ((q_back (cs, fs, ss, nb, sc, bad)).1), .int ((q_back (cs, fs, ss, nb, sc, bad)).1)]
  refine z_icmp_eq (tgt := 503) C d_Lw_law_192 (by decide) (fun _ => ?_) (fun c_192 => absurd (rfl) c_192)
  exact kk _ _ hs_189 hr_189
set_option maxHeartbeats 4000000 in
theorem law_3 (C : zC X E code R_law 4 (some .boolean) room_1) (hX : va_X b n xs X.2.2.2.2.1 X.2.2.2.2.1.heap) (hbl : b < X.2.2.2.2.1.heap.size) (hbA : ¬ E.2.2.1 b) (hn : n ≤ 2048) (hm : m = B + 312) (hi : i + 4 ≤ n) {s : St} (hs : zse E M B s) (hr : mst E M m s) (kk : ∀ (M' : zM) (s' : St), zse E M' B s' → mst E M' m s' → Z X E 4 Q 400 6000 sz M' 503 [(0, .ref b), (1, .ref B), (2, .ref m), (3, .int (nI i))] []) : Z X E 4 Q 400 6000 sz M 197 [(0, .ref b), (1, .ref B), (2, .ref m), (3, .int (nI i))] [] := by
  obtain ⟨cs, fs, ss, nb, sc, bad⟩ := s
  refine z_aload_n C d_Lw_law_197 rfl rfl ?_
  obtain ⟨vs_198, hc_198⟩ := (zse_c hs)
  refine z_callV (rest := []) (n := 0) (As := []) C (s_enter E X.2.1 _ _ hs (goodL_all (mst_k hr).1)) ⟨z_cb C k_S_enter ml_Lw_30 ii_S rfl rfl (by decide +kernel) ⟨by decide, by decide⟩, C.2.2.2.2.1 _ im_S_enter, C.2.2.2.2.1 _ se_S_enter⟩ hc_198 rfl rfl rfl (Nat.le_of_ble_eq_true rfl) d_Lw_law_198 ⟨by decide, by decide⟩ ?_
  intro v_198 s_198 M_198 hp_198
  obtain ⟨rfl, ho_198, g_1, x_1, t_1, rfl, he_1, hs_198⟩ := hp_198
  have hr_198 := mst_o hr ho_198 (by omega)
  show Z _ _ _ _ _ _ _ _ 201 _ [.int x_1]
  refine z_aload_n C d_Lw_law_201 rfl rfl ?_
  obtain ⟨vs_202, hc_202⟩ := (mst_c hr_198)
  refine z_callV (rest := [.int x_1]) (n := 0) (As := []) C (m_enter E X.2.1 _ _ hr_198 ) ⟨z_cb C k_M_enter ml_Lw_33 ii_M rfl rfl (by decide +kernel) ⟨by decide, by decide⟩, C.2.2.2.2.1 _ im_M_enter, C.2.2.2.2.1 _ se_M_enter⟩ hc_202 rfl rfl rfl (Nat.le_of_ble_eq_true rfl) d_Lw_law_202 ⟨by decide, by decide⟩ ?_
  intro v_202 s_202 M_202 hp_202
  obtain ⟨rfl, ho_202, x_2, t_2, rfl, he_2, hr_202⟩ := hp_202
  have hs_202 := zse_o hs_198 ho_202 (by omega)
  obtain ⟨ex, et⟩ := ent_det (mst_k hr).1 (mst_k hr).2 he_1 he_2
  subst ex et
  show Z _ _ _ _ _ _ _ _ 205 _ [.int x_1, .int x_1]
  refine z_icmp_eq (tgt := 503) C d_Lw_law_205 (by decide) (fun _ => ?_) (fun c_205 => absurd (rfl) c_205)
  exact kk _ _ hs_202 hr_202
set_option maxHeartbeats 4000000 in
theorem law_4 (C : zC X E code R_law 4 (some .boolean) room_1) (hX : va_X b n xs X.2.2.2.2.1 X.2.2.2.2.1.heap) (hbl : b < X.2.2.2.2.1.heap.size) (hbA : ¬ E.2.2.1 b) (hn : n ≤ 2048) (hm : m = B + 312) (hi : i + 4 ≤ n) {s : St} (hs : zse E M B s) (hr : mst E M m s) (kk : ∀ (M' : zM) (s' : St), zse E M' B s' → mst E M' m s' → Z X E 4 Q 400 6000 sz M' 503 [(0, .ref b), (1, .ref B), (2, .ref m), (3, .int (nI i))] []) : Z X E 4 Q 400 6000 sz M 210 [(0, .ref b), (1, .ref B), (2, .ref m), (3, .int (nI i))] [] := by
  obtain ⟨cs, fs, ss, nb, sc, bad⟩ := s
  refine z_aload_n C d_Lw_law_210 rfl rfl ?_
  obtain ⟨vs_211, hc_211⟩ := (zse_c hs)
  refine z_callV (rest := []) (n := 0) (As := []) C (s_badPlace E X.2.1 _ _ hs ) ⟨z_cb C k_S_badPlace ml_Lw_34 ii_S rfl rfl (by decide +kernel) ⟨by decide, by decide⟩, C.2.2.2.2.1 _ im_S_badPlace, C.2.2.2.2.1 _ se_S_badPlace⟩ hc_211 rfl rfl rfl (Nat.le_of_ble_eq_true rfl) d_Lw_law_211 ⟨by decide, by decide⟩ ?_
  intro v_211 s_211 M_211 hp_211
  obtain ⟨rfl, rfl, rfl⟩ := hp_211
  show Z _ _ _ _ _ _ _ _ 214 _ [.int bad]
  refine z_aload_n C d_Lw_law_214 rfl rfl ?_
  obtain ⟨vs_215, hc_215⟩ := (mst_c hr)
  refine z_callV (rest := [.int bad]) (n := 0) (As := []) C (m_badPlace E X.2.1 _ _ hr ) ⟨z_cb C k_M_badPlace ml_Lw_37 ii_M rfl rfl (by decide +kernel) ⟨by decide, by decide⟩, C.2.2.2.2.1 _ im_M_badPlace, C.2.2.2.2.1 _ se_M_badPlace⟩ hc_215 rfl rfl rfl (Nat.le_of_ble_eq_true rfl) d_Lw_law_215 ⟨by decide, by decide⟩ ?_
  intro v_215 s_215 M_215 hp_215
  obtain ⟨rfl, rfl, rfl⟩ := hp_215
  show Z _ _ _ _ _ _ _ _ 218 _ [.int bad, .int bad]
  refine z_icmp_eq (tgt := 503) C d_Lw_law_218 (by decide) (fun _ => ?_) (fun c_218 => absurd (rfl) c_218)
  exact kk _ _ hs hr
set_option maxHeartbeats 4000000 in
theorem law_5 (C : zC X E code R_law 4 (some .boolean) room_1) (hX : va_X b n xs X.2.2.2.2.1 X.2.2.2.2.1.heap) (hbl : b < X.2.2.2.2.1.heap.size) (hbA : ¬ E.2.2.1 b) (hn : n ≤ 2048) (hm : m = B + 312) (hi : i + 4 ≤ n) {s : St} (hs : zse E M B s) (hr : mst E M m s) (kk : ∀ (M' : zM) (s' : St), zse E M' B s' → mst E M' m s' → Z X E 4 Q 400 6000 sz M' 503 [(0, .ref b), (1, .ref B), (2, .ref m), (3, .int (nI i))] []) : Z X E 4 Q 400 6000 sz M 223 [(0, .ref b), (1, .ref B), (2, .ref m), (3, .int (nI i))] [] := by
  obtain ⟨cs, fs, ss, nb, sc, bad⟩ := s
  by_cases hb : xs (i + 2) = 0
  · refine z_aload_n C d_Lw_law_223 rfl rfl ?_
    refine z_aload_n C d_Lw_law_224 rfl rfl ?_
    refine z_iload_n C d_Lw_law_225 rfl rfl ?_
    refine z_iconst (v := 1) C d_Lw_law_226 (by decide) ?_
    refine z_iadd C d_Lw_law_227 ?_
    refine z_scd C hX hbl hbA (i + 1) (nI_add i 1) (by omega) (by omega) d_Lw_law_228 ?_
    refine z_aload_n C d_Lw_law_229 rfl rfl ?_
    refine z_iload_n C d_Lw_law_230 rfl rfl ?_
    refine z_iconst (v := 2) C d_Lw_law_231 (by decide) ?_
    refine z_iadd C d_Lw_law_232 ?_
    refine z_scd C hX hbl hbA (i + 2) (nI_add i 2) (by omega) (by omega) d_Lw_law_233 ?_
    refine z_if_eq (tgt := 241) C d_Lw_law_234 (by decide) (fun _ => ?_) (fun c_234 => absurd (hb) c_234)
    refine z_iconst (v := 0) C d_Lw_law_241 (by decide) ?_
    obtain ⟨vs_242, hc_242⟩ := (zse_c hs)
    refine z_callV (rest := []) (n := 2) (As := [.int (xs (i + 1)), .int 0]) C (s_degree E X.2.1 _ _ hs (xs (i + 1)) false) ⟨z_cb C k_S_degree ml_Lw_38 ii_S rfl rfl (by decide +kernel) ⟨by decide, by decide⟩, C.2.2.2.2.1 _ im_S_degree, C.2.2.2.2.1 _ se_S_degree⟩ hc_242 rfl rfl rfl (Nat.le_of_ble_eq_true rfl) d_Lw_law_242 ⟨by decide, by decide⟩ ?_
    intro v_242 s_242 M_242 hp_242
    obtain ⟨rfl, rfl, rfl⟩ := hp_242
    show Z _ _ _ _ _ _ _ _ 245 _ [.int (q_degree fs (xs (i + 1)) false)]
    refine z_aload_n C d_Lw_law_245 rfl rfl ?_
    refine z_aload_n C d_Lw_law_246 rfl rfl ?_
    refine z_iload_n C d_Lw_law_247 rfl rfl ?_
    refine z_iconst (v := 1) C d_Lw_law_248 (by decide) ?_
    refine z_iadd C d_Lw_law_249 ?_
    refine z_scd C hX hbl hbA (i + 1) (nI_add i 1) (by omega) (by omega) d_Lw_law_250 ?_
    refine z_aload_n C d_Lw_law_251 rfl rfl ?_
    refine z_iload_n C d_Lw_law_252 rfl rfl ?_
    refine z_iconst (v := 2) C d_Lw_law_253 (by decide) ?_
    refine z_iadd C d_Lw_law_254 ?_
    refine z_scd C hX hbl hbA (i + 2) (nI_add i 2) (by omega) (by omega) d_Lw_law_255 ?_
    refine z_if_eq (tgt := 263) C d_Lw_law_256 (by decide) (fun _ => ?_) (fun c_256 => absurd (hb) c_256)
    refine z_iconst (v := nI 0) C d_Lw_law_263 (by decide) ?_
    obtain ⟨vs_264, hc_264⟩ := (mst_c hr)
    refine z_callV (rest := [.int (q_degree fs (xs (i + 1)) false)]) (n := 2) (As := [.int (xs (i + 1)), .int (nI 0)]) C (m_degree0 E X.2.1 _ _ hr (xs (i + 1))) ⟨z_cb C k_M_degree ml_Lw_42 ii_M rfl rfl (by decide +kernel) ⟨by decide, by decide⟩, C.2.2.2.2.1 _ im_M_degree, C.2.2.2.2.1 _ se_M_degree⟩ hc_264 rfl rfl rfl (Nat.le_of_ble_eq_true rfl) d_Lw_law_264 ⟨by decide, by decide⟩ ?_
    intro v_264 s_264 M_264 hp_264
    obtain ⟨rfl, rfl, rfl⟩ := hp_264
    show Z _ _ _ _ _ _ _ _ 267 _ [.int (q_degree fs (xs (i + 1)) false), .int (q_degree fs (xs (i + 1)) false)]
    refine z_icmp_eq (tgt := 503) C d_Lw_law_267 (by decide) (fun _ => ?_) (fun c_267 => absurd (rfl) c_267)
    exact kk _ _ hs hr
  · refine z_aload_n C d_Lw_law_223 rfl rfl ?_
    refine z_aload_n C d_Lw_law_224 rfl rfl ?_
    refine z_iload_n C d_Lw_law_225 rfl rfl ?_
    refine z_iconst (v := 1) C d_Lw_law_226 (by decide) ?_
    refine z_iadd C d_Lw_law_227 ?_
    refine z_scd C hX hbl hbA (i + 1) (nI_add i 1) (by omega) (by omega) d_Lw_law_228 ?_
    refine z_aload_n C d_Lw_law_229 rfl rfl ?_
    refine z_iload_n C d_Lw_law_230 rfl rfl ?_
    refine z_iconst (v := 2) C d_Lw_law_231 (by decide) ?_
    refine z_iadd C d_Lw_law_232 ?_
    refine z_scd C hX hbl hbA (i + 2) (nI_add i 2) (by omega) (by omega) d_Lw_law_233 ?_
    refine z_if_eq (tgt := 241) C d_Lw_law_234 (by decide) (fun c_234 => absurd c_234 (hb)) (fun _ => ?_)
    refine z_iconst (v := 1) C d_Lw_law_237 (by decide) ?_
    refine z_goto (tgt := 242) C d_Lw_law_238 (by decide) ?_
    obtain ⟨vs_242, hc_242⟩ := (zse_c hs)
    refine z_callV (rest := []) (n := 2) (As := [.int (xs (i + 1)), .int 1]) C (s_degree E X.2.1 _ _ hs (xs (i + 1)) true) ⟨z_cb C k_S_degree ml_Lw_38 ii_S rfl rfl (by decide +kernel) ⟨by decide, by decide⟩, C.2.2.2.2.1 _ im_S_degree, C.2.2.2.2.1 _ se_S_degree⟩ hc_242 rfl rfl rfl (Nat.le_of_ble_eq_true rfl) d_Lw_law_242 ⟨by decide, by decide⟩ ?_
    intro v_242 s_242 M_242 hp_242
    obtain ⟨rfl, rfl, rfl⟩ := hp_242
    show Z _ _ _ _ _ _ _ _ 245 _ [.int (q_degree fs (xs (i + 1)) true)]
    refine z_aload_n C d_Lw_law_245 rfl rfl ?_
    refine z_aload_n C d_Lw_law_246 rfl rfl ?_
    refine z_iload_n C d_Lw_law_247 rfl rfl ?_
    refine z_iconst (v := 1) C d_Lw_law_248 (by decide) ?_
    refine z_iadd C d_Lw_law_249 ?_
    refine z_scd C hX hbl hbA (i + 1) (nI_add i 1) (by omega) (by omega) d_Lw_law_250 ?_
    refine z_aload_n C d_Lw_law_251 rfl rfl ?_
    refine z_iload_n C d_Lw_law_252 rfl rfl ?_
    refine z_iconst (v := 2) C d_Lw_law_253 (by decide) ?_
    refine z_iadd C d_Lw_law_254 ?_
    refine z_scd C hX hbl hbA (i + 2) (nI_add i 2) (by omega) (by omega) d_Lw_law_255 ?_
    refine z_if_eq (tgt := 263) C d_Lw_law_256 (by decide) (fun c_256 => absurd c_256 (hb)) (fun _ => ?_)
    refine z_iconst (v := nI 1) C d_Lw_law_259 (by decide) ?_
    refine z_goto (tgt := 264) C d_Lw_law_260 (by decide) ?_
    obtain ⟨vs_264, hc_264⟩ := (mst_c hr)
    refine z_callV (rest := [.int (q_degree fs (xs (i + 1)) true)]) (n := 2) (As := [.int (xs (i + 1)), .int (nI 1)]) C (m_degree1 E X.2.1 _ _ hr (xs (i + 1))) ⟨z_cb C k_M_degree ml_Lw_42 ii_M rfl rfl (by decide +kernel) ⟨by decide, by decide⟩, C.2.2.2.2.1 _ im_M_degree, C.2.2.2.2.1 _ se_M_degree⟩ hc_264 rfl rfl rfl (Nat.le_of_ble_eq_true rfl) d_Lw_law_264 ⟨by decide, by decide⟩ ?_
    intro v_264 s_264 M_264 hp_264
    obtain ⟨rfl, rfl, rfl⟩ := hp_264
    show Z _ _ _ _ _ _ _ _ 267 _ [.int (q_degree fs (xs (i + 1)) true), .int (q_degree fs (xs (i + 1)) true)]
    refine z_icmp_eq (tgt := 503) C d_Lw_law_267 (by decide) (fun _ => ?_) (fun c_267 => absurd (rfl) c_267)
    exact kk _ _ hs hr
set_option maxHeartbeats 4000000 in
theorem law_6 (C : zC X E code R_law 4 (some .boolean) room_1) (hX : va_X b n xs X.2.2.2.2.1 X.2.2.2.2.1.heap) (hbl : b < X.2.2.2.2.1.heap.size) (hbA : ¬ E.2.2.1 b) (hn : n ≤ 2048) (hm : m = B + 312) (hi : i + 4 ≤ n) {s : St} (hs : zse E M B s) (hr : mst E M m s) (kk : ∀ (M' : zM) (s' : St), zse E M' B s' → mst E M' m s' → Z X E 4 Q 400 6000 sz M' 503 [(0, .ref b), (1, .ref B), (2, .ref m), (3, .int (nI i))] []) : Z X E 4 Q 400 6000 sz M 272 [(0, .ref b), (1, .ref B), (2, .ref m), (3, .int (nI i))] [] := by
  obtain ⟨cs, fs, ss, nb, sc, bad⟩ := s
  by_cases hb : xs (i + 2) = 0
  · refine z_aload_n C d_Lw_law_272 rfl rfl ?_
    refine z_aload_n C d_Lw_law_273 rfl rfl ?_
    refine z_iload_n C d_Lw_law_274 rfl rfl ?_
    refine z_iconst (v := 1) C d_Lw_law_275 (by decide) ?_
    refine z_iadd C d_Lw_law_276 ?_
    refine z_scd C hX hbl hbA (i + 1) (nI_add i 1) (by omega) (by omega) d_Lw_law_277 ?_
    refine z_aload_n C d_Lw_law_278 rfl rfl ?_
    refine z_iload_n C d_Lw_law_279 rfl rfl ?_
    refine z_iconst (v := 2) C d_Lw_law_280 (by decide) ?_
    refine z_iadd C d_Lw_law_281 ?_
    refine z_scd C hX hbl hbA (i + 2) (nI_add i 2) (by omega) (by omega) d_Lw_law_282 ?_
    refine z_if_eq (tgt := 290) C d_Lw_law_283 (by decide) (fun _ => ?_) (fun c_283 => absurd (hb) c_283)
    refine z_iconst (v := 0) C d_Lw_law_290 (by decide) ?_
    refine z_aload_n C d_Lw_law_291 rfl rfl ?_
    refine z_iload_n C d_Lw_law_292 rfl rfl ?_
    refine z_iconst (v := 3) C d_Lw_law_293 (by decide) ?_
    refine z_iadd C d_Lw_law_294 ?_
    refine z_scd C hX hbl hbA (i + 3) (nI_add i 3) (by omega) (by omega) d_Lw_law_295 ?_
    obtain ⟨vs_296, hc_296⟩ := (zse_c hs)
    refine z_callV (rest := []) (n := 3) (As := [.int (xs (i + 1)), .int 0, .int (xs (i + 3))]) C (s_coefficient E X.2.1 _ _ hs (xs (i + 1)) false (xs (i + 3))) ⟨z_cb C k_S_coefficient ml_Lw_43 ii_S rfl rfl (by decide +kernel) ⟨by decide, by decide⟩, C.2.2.2.2.1 _ im_S_coefficient, C.2.2.2.2.1 _ se_S_coefficient⟩ hc_296 rfl rfl rfl (Nat.le_of_ble_eq_true rfl) d_Lw_law_296 ⟨by decide, by decide⟩ ?_
    intro v_296 s_296 M_296 hp_296
    obtain ⟨rfl, rfl, rfl⟩ := hp_296
    show Z _ _ _ _ _ _ _ _ 299 _ [.int (q_coef fs (xs (i + 1)) false (xs (i + 3)))]
    refine z_aload_n C d_Lw_law_299 rfl rfl ?_
    refine z_aload_n C d_Lw_law_300 rfl rfl ?_
    refine z_iload_n C d_Lw_law_301 rfl rfl ?_
    refine z_iconst (v := 1) C d_Lw_law_302 (by decide) ?_
    refine z_iadd C d_Lw_law_303 ?_
    refine z_scd C hX hbl hbA (i + 1) (nI_add i 1) (by omega) (by omega) d_Lw_law_304 ?_
    refine z_aload_n C d_Lw_law_305 rfl rfl ?_
    refine z_iload_n C d_Lw_law_306 rfl rfl ?_
    refine z_iconst (v := 2) C d_Lw_law_307 (by decide) ?_
    refine z_iadd C d_Lw_law_308 ?_
    refine z_scd C hX hbl hbA (i + 2) (nI_add i 2) (by omega) (by omega) d_Lw_law_309 ?_
    refine z_if_eq (tgt := 317) C d_Lw_law_310 (by decide) (fun _ => ?_) (fun c_310 => absurd (hb) c_310)
    refine z_iconst (v := nI 0) C d_Lw_law_317 (by decide) ?_
    refine z_aload_n C d_Lw_law_318 rfl rfl ?_
    refine z_iload_n C d_Lw_law_319 rfl rfl ?_
    refine z_iconst (v := 3) C d_Lw_law_320 (by decide) ?_
    refine z_iadd C d_Lw_law_321 ?_
    refine z_scd C hX hbl hbA (i + 3) (nI_add i 3) (by omega) (by omega) d_Lw_law_322 ?_
    obtain ⟨vs_323, hc_323⟩ := (mst_c hr)
    refine z_callV (rest := [.int (q_coef fs (xs (i + 1)) false (xs (i + 3)))]) (n := 3) (As := [.int (xs (i + 1)), .int (nI 0), .int (xs (i + 3))]) C (m_coefficient0 E X.2.1 _ _ hr (xs (i + 1)) (xs (i + 3))) ⟨z_cb C k_M_coefficient ml_Lw_47 ii_M rfl rfl (by decide +kernel) ⟨by decide, by decide⟩, C.2.2.2.2.1 _ im_M_coefficient, C.2.2.2.2.1 _ se_M_coefficient⟩ hc_323 rfl rfl rfl (Nat.le_of_ble_eq_true rfl) d_Lw_law_323 ⟨by decide, by decide⟩ ?_
    intro v_323 s_323 M_323 hp_323
    obtain ⟨rfl, rfl, rfl⟩ := hp_323
    show Z _ _ _ _ _ _ _ _ 326 _ [.int (q_coef fs (xs (i + 1)) false (xs (i + 3))), .int (q_coef fs (xs (i + 1)) false (xs (i + 3)))]
    refine z_icmp_eq (tgt := 503) C d_Lw_law_326 (by decide) (fun _ => ?_) (fun c_326 => absurd (rfl) c_326)
    exact kk _ _ hs hr
  · refine z_aload_n C d_Lw_law_272 rfl rfl ?_
    refine z_aload_n C d_Lw_law_273 rfl rfl ?_
    refine z_iload_n C d_Lw_law_274 rfl rfl ?_
    refine z_iconst (v := 1) C d_Lw_law_275 (by decide) ?_
    refine z_iadd C d_Lw_law_276 ?_
    refine z_scd C hX hbl hbA (i + 1) (nI_add i 1) (by omega) (by omega) d_Lw_law_277 ?_
    refine z_aload_n C d_Lw_law_278 rfl rfl ?_
    refine z_iload_n C d_Lw_law_279 rfl rfl ?_
    refine z_iconst (v := 2) C d_Lw_law_280 (by decide) ?_
    refine z_iadd C d_Lw_law_281 ?_
    refine z_scd C hX hbl hbA (i + 2) (nI_add i 2) (by omega) (by omega) d_Lw_law_282 ?_
    refine z_if_eq (tgt := 290) C d_Lw_law_283 (by decide) (fun c_283 => absurd c_283 (hb)) (fun _ => ?_)
    refine z_iconst (v := 1) C d_Lw_law_286 (by decide) ?_
    refine z_goto (tgt := 291) C d_Lw_law_287 (by decide) ?_
    refine z_aload_n C d_Lw_law_291 rfl rfl ?_
    refine z_iload_n C d_Lw_law_292 rfl rfl ?_
    refine z_iconst (v := 3) C d_Lw_law_293 (by decide) ?_
    refine z_iadd C d_Lw_law_294 ?_
    refine z_scd C hX hbl hbA (i + 3) (nI_add i 3) (by omega) (by omega) d_Lw_law_295 ?_
    obtain ⟨vs_296, hc_296⟩ := (zse_c hs)
    refine z_callV (rest := []) (n := 3) (As := [.int (xs (i + 1)), .int 1, .int (xs (i + 3))]) C (s_coefficient E X.2.1 _ _ hs (xs (i + 1)) true (xs (i + 3))) ⟨z_cb C k_S_coefficient ml_Lw_43 ii_S rfl rfl (by decide +kernel) ⟨by decide, by decide⟩, C.2.2.2.2.1 _ im_S_coefficient, C.2.2.2.2.1 _ se_S_coefficient⟩ hc_296 rfl rfl rfl (Nat.le_of_ble_eq_true rfl) d_Lw_law_296 ⟨by decide, by decide⟩ ?_
    intro v_296 s_296 M_296 hp_296
    obtain ⟨rfl, rfl, rfl⟩ := hp_296
    show Z _ _ _ _ _ _ _ _ 299 _ [.int (q_coef fs (xs (i + 1)) true (xs (i + 3)))]
    refine z_aload_n C d_Lw_law_299 rfl rfl ?_
    refine z_aload_n C d_Lw_law_300 rfl rfl ?_
    refine z_iload_n C d_Lw_law_301 rfl rfl ?_
    refine z_iconst (v := 1) C d_Lw_law_302 (by decide) ?_
    refine z_iadd C d_Lw_law_303 ?_
    refine z_scd C hX hbl hbA (i + 1) (nI_add i 1) (by omega) (by omega) d_Lw_law_304 ?_
    refine z_aload_n C d_Lw_law_305 rfl rfl ?_
    refine z_iload_n C d_Lw_law_306 rfl rfl ?_
    refine z_iconst (v := 2) C d_Lw_law_307 (by decide) ?_
    refine z_iadd C d_Lw_law_308 ?_
    refine z_scd C hX hbl hbA (i + 2) (nI_add i 2) (by omega) (by omega) d_Lw_law_309 ?_
    refine z_if_eq (tgt := 317) C d_Lw_law_310 (by decide) (fun c_310 => absurd c_310 (hb)) (fun _ => ?_)
    refine z_iconst (v := nI 1) C d_Lw_law_313 (by decide) ?_
    refine z_goto (tgt := 318) C d_Lw_law_314 (by decide) ?_
    refine z_aload_n C d_Lw_law_318 rfl rfl ?_
    refine z_iload_n C d_Lw_law_319 rfl rfl ?_
    refine z_iconst (v := 3) C d_Lw_law_320 (by decide) ?_
    refine z_iadd C d_Lw_law_321 ?_
    refine z_scd C hX hbl hbA (i + 3) (nI_add i 3) (by omega) (by omega) d_Lw_law_322 ?_
    obtain ⟨vs_323, hc_323⟩ := (mst_c hr)
    refine z_callV (rest := [.int (q_coef fs (xs (i + 1)) true (xs (i + 3)))]) (n := 3) (As := [.int (xs (i + 1)), .int (nI 1), .int (xs (i + 3))]) C (m_coefficient1 E X.2.1 _ _ hr (xs (i + 1)) (xs (i + 3))) ⟨z_cb C k_M_coefficient ml_Lw_47 ii_M rfl rfl (by decide +kernel) ⟨by decide, by decide⟩, C.2.2.2.2.1 _ im_M_coefficient, C.2.2.2.2.1 _ se_M_coefficient⟩ hc_323 rfl rfl rfl (Nat.le_of_ble_eq_true rfl) d_Lw_law_323 ⟨by decide, by decide⟩ ?_
    intro v_323 s_323 M_323 hp_323
    obtain ⟨rfl, rfl, rfl⟩ := hp_323
    show Z _ _ _ _ _ _ _ _ 326 _ [.int (q_coef fs (xs (i + 1)) true (xs (i + 3))), .int (q_coef fs (xs (i + 1)) true (xs (i + 3)))]
    refine z_icmp_eq (tgt := 503) C d_Lw_law_326 (by decide) (fun _ => ?_) (fun c_326 => absurd (rfl) c_326)
    exact kk _ _ hs hr
set_option maxHeartbeats 4000000 in
theorem law_7 (C : zC X E code R_law 4 (some .boolean) room_1) (hX : va_X b n xs X.2.2.2.2.1 X.2.2.2.2.1.heap) (hbl : b < X.2.2.2.2.1.heap.size) (hbA : ¬ E.2.2.1 b) (hn : n ≤ 2048) (hm : m = B + 312) (hi : i + 4 ≤ n) {s : St} (hs : zse E M B s) (hr : mst E M m s) (kk : ∀ (M' : zM) (s' : St), zse E M' B s' → mst E M' m s' → Z X E 4 Q 400 6000 sz M' 503 [(0, .ref b), (1, .ref B), (2, .ref m), (3, .int (nI i))] []) : Z X E 4 Q 400 6000 sz M 331 [(0, .ref b), (1, .ref B), (2, .ref m), (3, .int (nI i))] [] := by
  obtain ⟨cs, fs, ss, nb, sc, bad⟩ := s
  refine z_aload_n C d_Lw_law_331 rfl rfl ?_
  refine z_aload_n C d_Lw_law_332 rfl rfl ?_
  refine z_iload_n C d_Lw_law_333 rfl rfl ?_
  refine z_iconst (v := 1) C d_Lw_law_334 (by decide) ?_
  refine z_iadd C d_Lw_law_335 ?_
  refine z_scd C hX hbl hbA (i + 1) (nI_add i 1) (by omega) (by omega) d_Lw_law_336 ?_
  obtain ⟨vs_337, hc_337⟩ := (zse_c hs)
  refine z_callV (rest := []) (n := 1) (As := [.int (xs (i + 1))]) C (s_shape E X.2.1 _ _ hs (xs (i + 1))) ⟨z_cb C k_S_shape ml_Lw_48 ii_S rfl rfl (by decide +kernel) ⟨by decide, by decide⟩, C.2.2.2.2.1 _ im_S_shape, C.2.2.2.2.1 _ se_S_shape⟩ hc_337 rfl rfl rfl (Nat.le_of_ble_eq_true rfl) d_Lw_law_337 ⟨by decide, by decide⟩ ?_
  intro v_337 s_337 M_337 hp_337
  obtain ⟨rfl, rfl, rfl⟩ := hp_337
  show Z _ _ _ _ _ _ _ _ 340 _ [.int (q_shape fs ss (xs (i + 1)))]
  refine z_aload_n C d_Lw_law_340 rfl rfl ?_
  refine z_aload_n C d_Lw_law_341 rfl rfl ?_
  refine z_iload_n C d_Lw_law_342 rfl rfl ?_
  refine z_iconst (v := 1) C d_Lw_law_343 (by decide) ?_
  refine z_iadd C d_Lw_law_344 ?_
  refine z_scd C hX hbl hbA (i + 1) (nI_add i 1) (by omega) (by omega) d_Lw_law_345 ?_
  obtain ⟨vs_346, hc_346⟩ := (mst_c hr)
  refine z_callV (rest := [.int (q_shape fs ss (xs (i + 1)))]) (n := 1) (As := [.int (xs (i + 1))]) C (m_shape E X.2.1 _ _ hr (xs (i + 1))) ⟨z_cb C k_M_shape ml_Lw_51 ii_M rfl rfl (by decide +kernel) ⟨by decide, by decide⟩, C.2.2.2.2.1 _ im_M_shape, C.2.2.2.2.1 _ se_M_shape⟩ hc_346 rfl rfl rfl (Nat.le_of_ble_eq_true rfl) d_Lw_law_346 ⟨by decide, by decide⟩ ?_
  intro v_346 s_346 M_346 hp_346
  obtain ⟨rfl, rfl, rfl⟩ := hp_346
  show Z _ _ _ _ _ _ _ _ 349 _ [.int (q_shape fs ss (xs (i + 1))), .int (q_shape fs ss (xs (i + 1)))]
  refine z_icmp_eq (tgt := 503) C d_Lw_law_349 (by decide) (fun _ => ?_) (fun c_349 => absurd (rfl) c_349)
  exact kk _ _ hs hr
set_option maxHeartbeats 4000000 in
theorem law_8 (C : zC X E code R_law 4 (some .boolean) room_1) (hX : va_X b n xs X.2.2.2.2.1 X.2.2.2.2.1.heap) (hbl : b < X.2.2.2.2.1.heap.size) (hbA : ¬ E.2.2.1 b) (hn : n ≤ 2048) (hm : m = B + 312) (hi : i + 4 ≤ n) {s : St} (hs : zse E M B s) (hr : mst E M m s) (kk : ∀ (M' : zM) (s' : St), zse E M' B s' → mst E M' m s' → Z X E 4 Q 400 6000 sz M' 503 [(0, .ref b), (1, .ref B), (2, .ref m), (3, .int (nI i))] []) : Z X E 4 Q 400 6000 sz M 354 [(0, .ref b), (1, .ref B), (2, .ref m), (3, .int (nI i))] [] := by
  obtain ⟨cs, fs, ss, nb, sc, bad⟩ := s
  refine z_aload_n C d_Lw_law_354 rfl rfl ?_
  obtain ⟨vs_355, hc_355⟩ := (zse_c hs)
  refine z_callV (rest := []) (n := 0) (As := []) C (s_shapes E X.2.1 _ _ hs ) ⟨z_cb C k_S_shapes ml_Lw_52 ii_S rfl rfl (by decide +kernel) ⟨by decide, by decide⟩, C.2.2.2.2.1 _ im_S_shapes, C.2.2.2.2.1 _ se_S_shapes⟩ hc_355 rfl rfl rfl (Nat.le_of_ble_eq_true rfl) d_Lw_law_355 ⟨by decide, by decide⟩ ?_
  intro v_355 s_355 M_355 hp_355
  obtain ⟨rfl, rfl, rfl⟩ := hp_355
  show Z _ _ _ _ _ _ _ _ 358 _ [.int (nI sc)]
  refine z_aload_n C d_Lw_law_358 rfl rfl ?_
  obtain ⟨vs_359, hc_359⟩ := (mst_c hr)
  refine z_callV (rest := [.int (nI sc)]) (n := 0) (As := []) C (m_shapesQ E X.2.1 _ _ hr ) ⟨z_cb C k_M_shapes ml_Lw_55 ii_M rfl rfl (by decide +kernel) ⟨by decide, by decide⟩, C.2.2.2.2.1 _ im_M_shapes, C.2.2.2.2.1 _ se_M_shapes⟩ hc_359 rfl rfl rfl (Nat.le_of_ble_eq_true rfl) d_Lw_law_359 ⟨by decide, by decide⟩ ?_
  intro v_359 s_359 M_359 hp_359
  obtain ⟨rfl, rfl, rfl⟩ := hp_359
  show Z _ _ _ _ _ _ _ _ 362 _ [.int (nI sc), .int (nI sc)]
  refine z_icmp_eq (tgt := 503) C d_Lw_law_362 (by decide) (fun _ => ?_) (fun c_362 => absurd (rfl) c_362)
  exact kk _ _ hs hr
set_option maxHeartbeats 4000000 in
theorem law_9 (C : zC X E code R_law 4 (some .boolean) room_1) (hX : va_X b n xs X.2.2.2.2.1 X.2.2.2.2.1.heap) (hbl : b < X.2.2.2.2.1.heap.size) (hbA : ¬ E.2.2.1 b) (hn : n ≤ 2048) (hm : m = B + 312) (hi : i + 4 ≤ n) {s : St} (hs : zse E M B s) (hr : mst E M m s) (kk : ∀ (M' : zM) (s' : St), zse E M' B s' → mst E M' m s' → Z X E 4 Q 400 6000 sz M' 503 [(0, .ref b), (1, .ref B), (2, .ref m), (3, .int (nI i))] []) : Z X E 4 Q 400 6000 sz M 367 [(0, .ref b), (1, .ref B), (2, .ref m), (3, .int (nI i))] [] := by
  obtain ⟨cs, fs, ss, nb, sc, bad⟩ := s
  refine z_aload_n C d_Lw_law_367 rfl rfl ?_
  obtain ⟨vs_368, hc_368⟩ := (zse_c hs)
  refine z_callV (rest := []) (n := 0) (As := []) C (s_labels E X.2.1 _ _ hs ) ⟨z_cb C k_S_labels ml_Lw_56 ii_S rfl rfl (by decide +kernel) ⟨by decide, by decide⟩, C.2.2.2.2.1 _ im_S_labels, C.2.2.2.2.1 _ se_S_labels⟩ hc_368 rfl rfl rfl (Nat.le_of_ble_eq_true rfl) d_Lw_law_368 ⟨by decide, by decide⟩ ?_
  intro v_368 s_368 M_368 hp_368
  obtain ⟨rfl, rfl, rfl⟩ := hp_368
  show Z _ _ _ _ _ _ _ _ 371 _ [.int (nI fs.length)]
  refine z_aload_n C d_Lw_law_371 rfl rfl ?_
  obtain ⟨vs_372, hc_372⟩ := (mst_c hr)
  refine z_callV (rest := [.int (nI fs.length)]) (n := 0) (As := []) C (m_labels E X.2.1 _ _ hr ) ⟨z_cb C k_M_labels ml_Lw_59 ii_M rfl rfl (by decide +kernel) ⟨by decide, by decide⟩, C.2.2.2.2.1 _ im_M_labels, C.2.2.2.2.1 _ se_M_labels⟩ hc_372 rfl rfl rfl (Nat.le_of_ble_eq_true rfl) d_Lw_law_372 ⟨by decide, by decide⟩ ?_
  intro v_372 s_372 M_372 hp_372
  obtain ⟨rfl, rfl, rfl⟩ := hp_372
  show Z _ _ _ _ _ _ _ _ 375 _ [.int (nI fs.length), .int (nI fs.length)]
  refine z_icmp_eq (tgt := 503) C d_Lw_law_375 (by decide) (fun _ => ?_) (fun c_375 => absurd (rfl) c_375)
  exact kk _ _ hs hr
set_option maxHeartbeats 4000000 in
theorem law_10 (C : zC X E code R_law 4 (some .boolean) room_1) (hX : va_X b n xs X.2.2.2.2.1 X.2.2.2.2.1.heap) (hbl : b < X.2.2.2.2.1.heap.size) (hbA : ¬ E.2.2.1 b) (hn : n ≤ 2048) (hm : m = B + 312) (hi : i + 4 ≤ n) {s : St} (hs : zse E M B s) (hr : mst E M m s) (kk : ∀ (M' : zM) (s' : St), zse E M' B s' → mst E M' m s' → Z X E 4 Q 400 6000 sz M' 503 [(0, .ref b), (1, .ref B), (2, .ref m), (3, .int (nI i))] []) : Z X E 4 Q 400 6000 sz M 380 [(0, .ref b), (1, .ref B), (2, .ref m), (3, .int (nI i))] [] := by
  obtain ⟨cs, fs, ss, nb, sc, bad⟩ := s
  refine z_aload_n C d_Lw_law_380 rfl rfl ?_
  refine z_aload_n C d_Lw_law_381 rfl rfl ?_
  refine z_iload_n C d_Lw_law_382 rfl rfl ?_
  refine z_iconst (v := 1) C d_Lw_law_383 (by decide) ?_
  refine z_iadd C d_Lw_law_384 ?_
  refine z_scd C hX hbl hbA (i + 1) (nI_add i 1) (by omega) (by omega) d_Lw_law_385 ?_
  obtain ⟨vs_386, hc_386⟩ := (zse_c hs)
  refine z_callV (rest := []) (n := 1) (As := [.int (xs (i + 1))]) C (s_bound E X.2.1 _ _ hs (xs (i + 1))) ⟨z_cb C k_S_bound ml_Lw_60 ii_S rfl rfl (by decide +kernel) ⟨by decide, by decide⟩, C.2.2.2.2.1 _ im_S_bound, C.2.2.2.2.1 _ se_S_bound⟩ hc_386 rfl rfl rfl (Nat.le_of_ble_eq_true rfl) d_Lw_law_386 ⟨by decide, by decide⟩ ?_
  intro v_386 s_386 M_386 hp_386
  obtain ⟨rfl, rfl, rfl⟩ := hp_386
  show Z _ _ _ _ _ _ _ _ 389 _ [.int (q_bound ss nb (xs (i + 1)))]
  refine z_aload_n C d_Lw_law_389 rfl rfl ?_
  refine z_aload_n C d_Lw_law_390 rfl rfl ?_
  refine z_iload_n C d_Lw_law_391 rfl rfl ?_
  refine z_iconst (v := 1) C d_Lw_law_392 (by decide) ?_
  refine z_iadd C d_Lw_law_393 ?_
  refine z_scd C hX hbl hbA (i + 1) (nI_add i 1) (by omega) (by omega) d_Lw_law_394 ?_
  obtain ⟨vs_395, hc_395⟩ := (mst_c hr)
  refine z_callV (rest := [.int (q_bound ss nb (xs (i + 1)))]) (n := 1) (As := [.int (xs (i + 1))]) C (m_bound E X.2.1 _ _ hr (xs (i + 1))) ⟨z_cb C k_M_bound ml_Lw_63 ii_M rfl rfl (by decide +kernel) ⟨by decide, by decide⟩, C.2.2.2.2.1 _ im_M_bound, C.2.2.2.2.1 _ se_M_bound⟩ hc_395 rfl rfl rfl (Nat.le_of_ble_eq_true rfl) d_Lw_law_395 ⟨by decide, by decide⟩ ?_
  intro v_395 s_395 M_395 hp_395
  obtain ⟨rfl, rfl, rfl⟩ := hp_395
  show Z _ _ _ _ _ _ _ _ 398 _ [.int (q_bound ss nb (xs (i + 1))), .int (q_bound ss nb (xs (i + 1)))]
  refine z_icmp_eq (tgt := 503) C d_Lw_law_398 (by decide) (fun _ => ?_) (fun c_398 => absurd (rfl) c_398)
  exact kk _ _ hs hr
set_option maxHeartbeats 4000000 in
theorem law_11 (C : zC X E code R_law 4 (some .boolean) room_1) (hX : va_X b n xs X.2.2.2.2.1 X.2.2.2.2.1.heap) (hbl : b < X.2.2.2.2.1.heap.size) (hbA : ¬ E.2.2.1 b) (hn : n ≤ 2048) (hm : m = B + 312) (hi : i + 4 ≤ n) {s : St} (hs : zse E M B s) (hr : mst E M m s) (kk : ∀ (M' : zM) (s' : St), zse E M' B s' → mst E M' m s' → Z X E 4 Q 400 6000 sz M' 503 [(0, .ref b), (1, .ref B), (2, .ref m), (3, .int (nI i))] []) : Z X E 4 Q 400 6000 sz M 403 [(0, .ref b), (1, .ref B), (2, .ref m), (3, .int (nI i))] [] := by
  obtain ⟨cs, fs, ss, nb, sc, bad⟩ := s
  refine z_aload_n C d_Lw_law_403 rfl rfl ?_
  refine z_aload_n C d_Lw_law_404 rfl rfl ?_
  refine z_iload_n C d_Lw_law_405 rfl rfl ?_
  refine z_iconst (v := 1) C d_Lw_law_406 (by decide) ?_
  refine z_iadd C d_Lw_law_407 ?_
  refine z_scd C hX hbl hbA (i + 1) (nI_add i 1) (by omega) (by omega) d_Lw_law_408 ?_
  refine z_aload_n C d_Lw_law_409 rfl rfl ?_
  refine z_iload_n C d_Lw_law_410 rfl rfl ?_
  refine z_iconst (v := 2) C d_Lw_law_411 (by decide) ?_
  refine z_iadd C d_Lw_law_412 ?_
  refine z_scd C hX hbl hbA (i + 2) (nI_add i 2) (by omega) (by omega) d_Lw_law_413 ?_
  obtain ⟨vs_414, hc_414⟩ := (zse_c hs)
  refine z_callV (rest := []) (n := 2) (As := [.int (xs (i + 1)), .int (xs (i + 2))]) C (s_value E X.2.1 _ _ hs (xs (i + 1)) (xs (i + 2))) ⟨z_cb C k_S_value ml_Lw_64 ii_S rfl rfl (by decide +kernel) ⟨by decide, by decide⟩, C.2.2.2.2.1 _ im_S_value, C.2.2.2.2.1 _ se_S_value⟩ hc_414 rfl rfl rfl (Nat.le_of_ble_eq_true rfl) d_Lw_law_414 ⟨by decide, by decide⟩ ?_
  intro v_414 s_414 M_414 hp_414
  obtain ⟨rfl, rfl, rfl⟩ := hp_414
  show Z _ _ _ _ _ _ _ _ 417 _ [.int (q_value fs (xs (i + 1)) (xs (i + 2)))]
  refine z_aload_n C d_Lw_law_417 rfl rfl ?_
  refine z_aload_n C d_Lw_law_418 rfl rfl ?_
  refine z_iload_n C d_Lw_law_419 rfl rfl ?_
  refine z_iconst (v := 1) C d_Lw_law_420 (by decide) ?_
  refine z_iadd C d_Lw_law_421 ?_
  refine z_scd C hX hbl hbA (i + 1) (nI_add i 1) (by omega) (by omega) d_Lw_law_422 ?_
  refine z_aload_n C d_Lw_law_423 rfl rfl ?_
  refine z_iload_n C d_Lw_law_424 rfl rfl ?_
  refine z_iconst (v := 2) C d_Lw_law_425 (by decide) ?_
  refine z_iadd C d_Lw_law_426 ?_
  refine z_scd C hX hbl hbA (i + 2) (nI_add i 2) (by omega) (by omega) d_Lw_law_427 ?_
  obtain ⟨vs_428, hc_428⟩ := (mst_c hr)
  refine z_callV (rest := [.int (q_value fs (xs (i + 1)) (xs (i + 2)))]) (n := 2) (As := [.int (xs (i + 1)), .int (xs (i + 2))]) C (m_value E X.2.1 _ _ hr (xs (i + 1)) (xs (i + 2))) ⟨z_cb C k_M_value ml_Lw_68 ii_M rfl rfl (by decide +kernel) ⟨by decide, by decide⟩, C.2.2.2.2.1 _ im_M_value, C.2.2.2.2.1 _ se_M_value⟩ hc_428 rfl rfl rfl (Nat.le_of_ble_eq_true rfl) d_Lw_law_428 ⟨by decide, by decide⟩ ?_
  intro v_428 s_428 M_428 hp_428
  obtain ⟨rfl, rfl, rfl⟩ := hp_428
  show Z _ _ _ _ _ _ _ _ 431 _ [.int (q_value fs (xs (i + 1)) (xs (i + 2))), .int (q_value fs (xs (i + 1)) (xs (i + 2)))]
  refine z_icmp_eq (tgt := 503) C d_Lw_law_431 (by decide) (fun _ => ?_) (fun c_431 => absurd (rfl) c_431)
  exact kk _ _ hs hr
set_option maxHeartbeats 4000000 in
theorem law_12 (C : zC X E code R_law 4 (some .boolean) room_1) (hX : va_X b n xs X.2.2.2.2.1 X.2.2.2.2.1.heap) (hbl : b < X.2.2.2.2.1.heap.size) (hbA : ¬ E.2.2.1 b) (hn : n ≤ 2048) (hm : m = B + 312) (hi : i + 4 ≤ n) {s : St} (hs : zse E M B s) (hr : mst E M m s) (kk : ∀ (M' : zM) (s' : St), zse E M' B s' → mst E M' m s' → Z X E 4 Q 400 6000 sz M' 503 [(0, .ref b), (1, .ref B), (2, .ref m), (3, .int (nI i))] []) : Z X E 4 Q 400 6000 sz M 436 [(0, .ref b), (1, .ref B), (2, .ref m), (3, .int (nI i))] [] := by
  obtain ⟨cs, fs, ss, nb, sc, bad⟩ := s
  refine z_aload_n C d_Lw_law_436 rfl rfl ?_
  refine z_aload_n C d_Lw_law_437 rfl rfl ?_
  refine z_iload_n C d_Lw_law_438 rfl rfl ?_
  refine z_iconst (v := 1) C d_Lw_law_439 (by decide) ?_
  refine z_iadd C d_Lw_law_440 ?_
  refine z_scd C hX hbl hbA (i + 1) (nI_add i 1) (by omega) (by omega) d_Lw_law_441 ?_
  refine z_aload_n C d_Lw_law_442 rfl rfl ?_
  refine z_iload_n C d_Lw_law_443 rfl rfl ?_
  refine z_iconst (v := 2) C d_Lw_law_444 (by decide) ?_
  refine z_iadd C d_Lw_law_445 ?_
  refine z_scd C hX hbl hbA (i + 2) (nI_add i 2) (by omega) (by omega) d_Lw_law_446 ?_
  obtain ⟨vs_447, hc_447⟩ := (zse_c hs)
  refine z_callV (rest := []) (n := 2) (As := [.int (xs (i + 1)), .int (xs (i + 2))]) C (s_text E X.2.1 _ _ hs (xs (i + 1)) (xs (i + 2))) ⟨z_cb C k_S_text ml_Lw_69 ii_S rfl rfl (by decide +kernel) ⟨by decide, by decide⟩, C.2.2.2.2.1 _ im_S_text, C.2.2.2.2.1 _ se_S_text⟩ hc_447 rfl rfl rfl (Nat.le_of_ble_eq_true rfl) d_Lw_law_447 ⟨by decide, by decide⟩ ?_
  intro v_447 s_447 M_447 hp_447
  obtain ⟨rfl, rfl, ho_447, hs_447⟩ := hp_447
  have hr_447 := mst_o hr ho_447 (by omega)
  show Z _ _ _ _ _ _ _ _ 450 _ [.int (q_text fs (xs (i + 1)) (xs (i + 2)))]
  refine z_aload_n C d_Lw_law_450 rfl rfl ?_
  refine z_aload_n C d_Lw_law_451 rfl rfl ?_
  refine z_iload_n C d_Lw_law_452 rfl rfl ?_
  refine z_iconst (v := 1) C d_Lw_law_453 (by decide) ?_
  refine z_iadd C d_Lw_law_454 ?_
  refine z_scd C hX hbl hbA (i + 1) (nI_add i 1) (by omega) (by omega) d_Lw_law_455 ?_
  refine z_aload_n C d_Lw_law_456 rfl rfl ?_
  refine z_iload_n C d_Lw_law_457 rfl rfl ?_
  refine z_iconst (v := 2) C d_Lw_law_458 (by decide) ?_
  refine z_iadd C d_Lw_law_459 ?_
  refine z_scd C hX hbl hbA (i + 2) (nI_add i 2) (by omega) (by omega) d_Lw_law_460 ?_
  obtain ⟨vs_461, hc_461⟩ := (mst_c hr_447)
  refine z_callV (rest := [.int (q_text fs (xs (i + 1)) (xs (i + 2)))]) (n := 2) (As := [.int (xs (i + 1)), .int (xs (i + 2))]) C (m_text E X.2.1 _ _ hr_447 (xs (i + 1)) (xs (i + 2))) ⟨z_cb C k_M_text ml_Lw_72 ii_M rfl rfl (by decide +kernel) ⟨by decide, by decide⟩, C.2.2.2.2.1 _ im_M_text, C.2.2.2.2.1 _ se_M_text⟩ hc_461 rfl rfl rfl (Nat.le_of_ble_eq_true rfl) d_Lw_law_461 ⟨by decide, by decide⟩ ?_
  intro v_461 s_461 M_461 hp_461
  obtain ⟨rfl, rfl, ho_461, hr_461⟩ := hp_461
  have hs_461 := zse_o hs_447 ho_461 (by omega)
  show Z _ _ _ _ _ _ _ _ 464 _ [.int (q_text fs (xs (i + 1)) (xs (i + 2))), .int (q_text fs (xs (i + 1)) (xs (i + 2)))]
  refine z_icmp_eq (tgt := 503) C d_Lw_law_464 (by decide) (fun _ => ?_) (fun c_464 => absurd (rfl) c_464)
  exact kk _ _ hs_461 hr_461
set_option maxHeartbeats 4000000 in
theorem law_13 (C : zC X E code R_law 4 (some .boolean) room_1) (hX : va_X b n xs X.2.2.2.2.1 X.2.2.2.2.1.heap) (hbl : b < X.2.2.2.2.1.heap.size) (hbA : ¬ E.2.2.1 b) (hn : n ≤ 2048) (hm : m = B + 312) (hi : i + 4 ≤ n) {s : St} (hs : zse E M B s) (hr : mst E M m s) (kk : ∀ (M' : zM) (s' : St), zse E M' B s' → mst E M' m s' → Z X E 4 Q 400 6000 sz M' 503 [(0, .ref b), (1, .ref B), (2, .ref m), (3, .int (nI i))] []) : Z X E 4 Q 400 6000 sz M 469 [(0, .ref b), (1, .ref B), (2, .ref m), (3, .int (nI i))] [] := by
  obtain ⟨cs, fs, ss, nb, sc, bad⟩ := s
  refine z_aload_n C d_Lw_law_469 rfl rfl ?_
  refine z_aload_n C d_Lw_law_470 rfl rfl ?_
  refine z_iload_n C d_Lw_law_471 rfl rfl ?_
  refine z_iconst (v := 1) C d_Lw_law_472 (by decide) ?_
  refine z_iadd C d_Lw_law_473 ?_
  refine z_scd C hX hbl hbA (i + 1) (nI_add i 1) (by omega) (by omega) d_Lw_law_474 ?_
  obtain ⟨vs_475, hc_475⟩ := (zse_c hs)
  refine z_callV (rest := []) (n := 1) (As := [.int (xs (i + 1))]) C (s_line E X.2.1 _ _ hs (xs (i + 1))) ⟨z_cb C k_S_line ml_Lw_73 ii_S rfl rfl (by decide +kernel) ⟨by decide, by decide⟩, C.2.2.2.2.1 _ im_S_line, C.2.2.2.2.1 _ se_S_line⟩ hc_475 rfl rfl rfl (Nat.le_of_ble_eq_true rfl) d_Lw_law_475 ⟨by decide, by decide⟩ ?_
  intro v_475 s_475 M_475 hp_475
  obtain ⟨rfl, rfl, rfl⟩ := hp_475
  show Z _ _ _ _ _ _ _ _ 478 _ [.int (q_line cs (xs (i + 1)))]
  refine z_aload_n C d_Lw_law_478 rfl rfl ?_
  refine z_aload_n C d_Lw_law_479 rfl rfl ?_
  refine z_iload_n C d_Lw_law_480 rfl rfl ?_
  refine z_iconst (v := 1) C d_Lw_law_481 (by decide) ?_
  refine z_iadd C d_Lw_law_482 ?_
  refine z_scd C hX hbl hbA (i + 1) (nI_add i 1) (by omega) (by omega) d_Lw_law_483 ?_
  obtain ⟨vs_484, hc_484⟩ := (mst_c hr)
  refine z_callV (rest := [.int (q_line cs (xs (i + 1)))]) (n := 1) (As := [.int (xs (i + 1))]) C (m_line E X.2.1 _ _ hr (xs (i + 1))) ⟨z_cb C k_M_line ml_Lw_76 ii_M rfl rfl (by decide +kernel) ⟨by decide, by decide⟩, C.2.2.2.2.1 _ im_M_line, C.2.2.2.2.1 _ se_M_line⟩ hc_484 rfl rfl rfl (Nat.le_of_ble_eq_true rfl) d_Lw_law_484 ⟨by decide, by decide⟩ ?_
  intro v_484 s_484 M_484 hp_484
  obtain ⟨rfl, rfl, rfl⟩ := hp_484
  show Z _ _ _ _ _ _ _ _ 487 _ [.int (q_line cs (xs (i + 1))), .int (q_line cs (xs (i + 1)))]
  refine z_icmp_eq (tgt := 503) C d_Lw_law_487 (by decide) (fun _ => ?_) (fun c_487 => absurd (rfl) c_487)
  exact kk _ _ hs hr
set_option maxHeartbeats 4000000 in
theorem law_14 (C : zC X E code R_law 4 (some .boolean) room_1) (hX : va_X b n xs X.2.2.2.2.1 X.2.2.2.2.1.heap) (hbl : b < X.2.2.2.2.1.heap.size) (hbA : ¬ E.2.2.1 b) (hn : n ≤ 2048) (hm : m = B + 312) (hi : i + 4 ≤ n) {s : St} (hs : zse E M B s) (hr : mst E M m s) (kk : ∀ (M' : zM) (s' : St), zse E M' B s' → mst E M' m s' → Z X E 4 Q 400 6000 sz M' 503 [(0, .ref b), (1, .ref B), (2, .ref m), (3, .int (nI i))] []) : Z X E 4 Q 400 6000 sz M 492 [(0, .ref b), (1, .ref B), (2, .ref m), (3, .int (nI i))] [] := by
  obtain ⟨cs, fs, ss, nb, sc, bad⟩ := s
  refine z_aload_n C d_Lw_law_492 rfl rfl ?_
  obtain ⟨vs_493, hc_493⟩ := (zse_c hs)
  refine z_callV (rest := []) (n := 0) (As := []) C (s_reset E X.2.1 _ _ hs ) ⟨z_cb C k_S_reset ml_Lw_77 ii_S rfl rfl (by decide +kernel) ⟨by decide, by decide⟩, C.2.2.2.2.1 _ im_S_reset, C.2.2.2.2.1 _ se_S_reset⟩ hc_493 rfl rfl rfl (Nat.le_of_ble_eq_true rfl) d_Lw_law_493 ⟨by decide, by decide⟩ ?_
  intro v_493 s_493 M_493 hp_493
  obtain ⟨rfl, rfl, ho_493, hs_493⟩ := hp_493
  have hr_493 := mst_o hr ho_493 (by omega)
  show Z _ _ _ _ _ _ _ _ 496 _ []
  refine z_aload_n C d_Lw_law_496 rfl rfl ?_
  obtain ⟨vs_497, hc_497⟩ := (mst_c hr_493)
  refine z_callV (rest := []) (n := 0) (As := []) C (m_reset E X.2.1 _ _ hr_493 ) ⟨z_cb C k_M_reset ml_Lw_80 ii_M rfl rfl (by decide +kernel) ⟨by decide, by decide⟩, C.2.2.2.2.1 _ im_M_reset, C.2.2.2.2.1 _ se_M_reset⟩ hc_497 rfl rfl rfl (Nat.le_of_ble_eq_true rfl) d_Lw_law_497 ⟨by decide, by decide⟩ ?_
  intro v_497 s_497 M_497 hp_497
  obtain ⟨rfl, rfl, ho_497, hr_497⟩ := hp_497
  have hs_497 := zse_o hs_493 ho_497 (by omega)
  show Z _ _ _ _ _ _ _ _ 500 _ []
  refine z_goto (tgt := 503) C d_Lw_law_500 (by decide) ?_
  exact kk _ _ hs_497 hr_497
set_option maxHeartbeats 4000000 in
theorem law_loop (C : zC X E code R_law 4 (some .boolean) room_1) (hX : va_X b n xs X.2.2.2.2.1 X.2.2.2.2.1.heap) (hbl : b < X.2.2.2.2.1.heap.size) (hbA : ¬ E.2.2.1 b) (hn : n ≤ 2048) (hm : m = B + 312) (hend : ∀ (M' : zM) (L : List (Nat × Value)), Z X E 4 Q 400 6000 sz M' 509 L []) : ∀ (f i : Nat), n ≤ i + f → i ≤ n + 4 → ∀ (M : zM) (s : St), zse E M B s → mst E M m s → Z X E 4 Q 400 6000 sz M 18 [(0, .ref b), (1, .ref B), (2, .ref m), (3, .int (nI i))] [] := by
  intro f
  induction f with
  | zero =>
    intro i hf hi M s hs hr
    refine z_iload_n C d_Lw_law_18 rfl rfl ?_
    refine z_aload_n C d_Lw_law_19 rfl rfl ?_
    refine z_scl C hX hbl hbA d_Lw_law_20 ?_
    refine z_iconst (v := 4) C d_Lw_law_21 (by decide) ?_
    refine z_isub C d_Lw_law_22 ?_
    refine z_icmp_gt (tgt := 509) C d_Lw_law_23 (by decide) (fun _ => hend _ _) (fun c => absurd ((law_lt hn (by omega)).mpr (by omega)) c)
  | succ f ih =>
    intro i hf hi M s hs hr
    refine z_iload_n C d_Lw_law_18 rfl rfl ?_
    refine z_aload_n C d_Lw_law_19 rfl rfl ?_
    refine z_scl C hX hbl hbA d_Lw_law_20 ?_
    refine z_iconst (v := 4) C d_Lw_law_21 (by decide) ?_
    refine z_isub C d_Lw_law_22 ?_
    refine z_icmp_gt (tgt := 509) C d_Lw_law_23 (by decide) (fun _ => hend _ _) (fun c => ?_)
    have hi4 : i + 4 ≤ n := Nat.not_lt.mp (fun q => c ((law_lt hn (by omega)).mpr q))
    refine z_aload_n C d_Lw_law_26 rfl rfl ?_
    refine z_iload_n C d_Lw_law_27 rfl rfl ?_
    refine z_scd C hX hbl hbA i rfl (by omega) (by omega) d_Lw_law_28 ?_
    refine z_bipush (v := 15) C d_Lw_law_29 (by decide) ?_
    refine z_iand C d_Lw_law_31 ?_
    obtain ⟨k, hk, ek⟩ := and15 (xs i)
    refine z_top ek ?_
    clear ek
    have kk : ∀ (M' : zM) (s' : St), zse E M' B s' → mst E M' m s' → Z X E 4 Q 400 6000 sz M' 503 [(0, .ref b), (1, .ref B), (2, .ref m), (3, .int (nI i))] [] := by
      intro M' s' hs' hr'
      refine z_iinc (v := nI (i + 4)) (L' := [(0, .ref b), (1, .ref B), (2, .ref m), (3, .int (nI (i + 4)))]) C d_Lw_law_503 rfl (nI_add i 4) (by decide) rfl ?_
      refine z_goto (tgt := 18) C d_Lw_law_506 (by decide) ?_
      exact ih (i + 4) (by omega) (by omega) M' s' hs' hr'
    rcases (by omega : k = 0 ∨ k = 1 ∨ k = 2 ∨ k = 3 ∨ k = 4 ∨ k = 5 ∨ k = 6 ∨ k = 7 ∨ k = 8 ∨ k = 9 ∨ k = 10 ∨ k = 11 ∨ k = 12 ∨ k = 13 ∨ k = 14 ∨ k = 15) with e | e | e | e | e | e | e | e | e | e | e | e | e | e | e | e
    · subst e
      refine z_tableIn (off := 76) (tgt := 108) C d_Lw_law_32 (by decide) (by decide) (by decide) (by decide) ?_
      exact law_0 C hX hbl hbA hn hm hi4 hs hr kk
    · subst e
      refine z_tableIn (off := 99) (tgt := 131) C d_Lw_law_32 (by decide) (by decide) (by decide) (by decide) ?_
      exact law_1 C hX hbl hbA hn hm hi4 hs hr kk
    · subst e
      refine z_tableIn (off := 152) (tgt := 184) C d_Lw_law_32 (by decide) (by decide) (by decide) (by decide) ?_
      exact law_2 C hX hbl hbA hn hm hi4 hs hr kk
    · subst e
      refine z_tableIn (off := 165) (tgt := 197) C d_Lw_law_32 (by decide) (by decide) (by decide) (by decide) ?_
      exact law_3 C hX hbl hbA hn hm hi4 hs hr kk
    · subst e
      refine z_tableIn (off := 178) (tgt := 210) C d_Lw_law_32 (by decide) (by decide) (by decide) (by decide) ?_
      exact law_4 C hX hbl hbA hn hm hi4 hs hr kk
    · subst e
      refine z_tableIn (off := 191) (tgt := 223) C d_Lw_law_32 (by decide) (by decide) (by decide) (by decide) ?_
      exact law_5 C hX hbl hbA hn hm hi4 hs hr kk
    · subst e
      refine z_tableIn (off := 240) (tgt := 272) C d_Lw_law_32 (by decide) (by decide) (by decide) (by decide) ?_
      exact law_6 C hX hbl hbA hn hm hi4 hs hr kk
    · subst e
      refine z_tableIn (off := 299) (tgt := 331) C d_Lw_law_32 (by decide) (by decide) (by decide) (by decide) ?_
      exact law_7 C hX hbl hbA hn hm hi4 hs hr kk
    · subst e
      refine z_tableIn (off := 322) (tgt := 354) C d_Lw_law_32 (by decide) (by decide) (by decide) (by decide) ?_
      exact law_8 C hX hbl hbA hn hm hi4 hs hr kk
    · subst e
      refine z_tableIn (off := 335) (tgt := 367) C d_Lw_law_32 (by decide) (by decide) (by decide) (by decide) ?_
      exact law_9 C hX hbl hbA hn hm hi4 hs hr kk
    · subst e
      refine z_tableIn (off := 348) (tgt := 380) C d_Lw_law_32 (by decide) (by decide) (by decide) (by decide) ?_
      exact law_10 C hX hbl hbA hn hm hi4 hs hr kk
    · subst e
      refine z_tableIn (off := 371) (tgt := 403) C d_Lw_law_32 (by decide) (by decide) (by decide) (by decide) ?_
      exact law_11 C hX hbl hbA hn hm hi4 hs hr kk
    · subst e
      refine z_tableIn (off := 404) (tgt := 436) C d_Lw_law_32 (by decide) (by decide) (by decide) (by decide) ?_
      exact law_12 C hX hbl hbA hn hm hi4 hs hr kk
    · subst e
      refine z_tableIn (off := 437) (tgt := 469) C d_Lw_law_32 (by decide) (by decide) (by decide) (by decide) ?_
      exact law_13 C hX hbl hbA hn hm hi4 hs hr kk
    · subst e
      refine z_tableIn (off := 460) (tgt := 492) C d_Lw_law_32 (by decide) (by decide) (by decide) (by decide) ?_
      exact law_14 C hX hbl hbA hn hm hi4 hs hr kk
    · subst e
      refine z_tableOut (tgt := 503) C d_Lw_law_32 (by decide) (by decide) ?_
      exact kk _ _ hs hr
end LAW
