set_option maxHeartbeats 4000000 in
/-- readBeforeAtom -/
theorem r_readBeforeAtom (E : zE) (l : Launch) (sz : Nat) (M : zM) {r p : Nat} {cs : List Nat} {o a b : Nat → Nat} {n i k w y h : Nat} {ps : List (Nat × Int)} {t : Int32} (H : zrd E M r p cs (o, a, b, n, i, k, w, y, h, ps, t)) (c : Nat) (hc : c < 128) (hi : i ≤ 90) : zMet E l y_R_readBeforeAtom c_R_readBeforeAtom 2 none { frames := 2, cells := 0, slots := 0, locals := 46 } 0 0 [.ref r, .int (nI c)] sz M (fun v s M' => none = v ∧ sz = s ∧ zoutR M M' (p + 2) (r + 4) ∧ zrd E M' r p cs (r_bef cs c (o, a, b, n, i, k, w, y, h, ps, t))) := by
  obtain ⟨h0, h1, h2, h3, hg, hz, hpr, bo, ba, bb, bn, bk, bw, b_y, bh⟩ := id H
  refine zMet.ofZ (by decide) (Nat.le_of_ble_eq_true rfl) ?_
  intro X hl hini C
  have k165 : ¬ (y = 1 ∧ (c = 43 ∨ c = 45)) → ¬ (isD c) → ¬ (c = 37) → ¬ (c = 120) → ¬ (isNm c) → Z X E 2 (zQ X E 0 0 (fun v s M' => none = v ∧ sz = s ∧ zoutR M M' (p + 2) (r + 4) ∧ zrd E M' r p cs (r_bef cs c (o, a, b, n, i, k, w, y, h, ps, t)))) 0 0 sz M 165 [(0, .ref r), (1, .int (nI c))] [] := by
    intro q1 q2 q3 q4 q5
    refine z_iload_n C d_R_readBeforeAtom_165 rfl rfl ?_
    refine z_bipush (v := nI 40) C d_R_readBeforeAtom_166 (by decide) ?_
    refine z_icmp_eq (tgt := 183) C d_R_readBeforeAtom_168 (by decide) (fun c_168 => ?_) (fun c_168 => ?_)
    · have c_168 : c = 40 := (nI_eq (a := c) (b := 40) (by omega) (by omega)).mp c_168
      refine z_aload_n C d_R_readBeforeAtom_183 rfl rfl ?_
      refine z_iload_n C d_R_readBeforeAtom_184 rfl rfl ?_
      refine z_callV (rest := []) (n := 1) (As := [.int (nI c)]) C (r_readOpening E X.2.1 sz _ H c hc (by omega)) ⟨z_cb C k_R_readOpening ml_R_96 ii_R rfl rfl (by decide +kernel) ⟨by decide, by decide⟩, C.2.2.2.2.1 _ im_R_readOpening, C.2.2.2.2.1 _ se_R_readOpening⟩ h0 rfl rfl rfl (Nat.le_of_ble_eq_true rfl) d_R_readBeforeAtom_185 ⟨by decide, by decide⟩ ?_
      intro v_185 s_185 M_185 hp_185
      obtain ⟨rfl, rfl, hfr_185, H_185⟩ := hp_185
      have eend : r_bef cs c (o, a, b, n, i, k, w, y, h, ps, t) = r_op cs c (o, a, b, n, i, k, w, y, h, ps, t) := by simp only [r_bef]; rw [if_neg (show ¬ (y = 1 ∧ (c = 43 ∨ c = 45)) by assumption), if_neg (show ¬ (isD c) by assumption), if_neg (show ¬ (c = 37) by assumption), if_neg (show ¬ (c = 120) by assumption), if_neg (show ¬ (isNm c) by assumption), if_pos (show c = 40 ∨ c = 100 ∨ c = 115 by omega)]
      show Z _ _ _ _ _ _ _ _ 188 _ []
      refine z_goto (tgt := 196) C d_R_readBeforeAtom_188 (by decide) ?_
      exact z_vret C ⟨rfl, rfl, hfr_185, by rw [eend]; exact H_185⟩ d_R_readBeforeAtom_196
    · have c_168 : ¬ c = 40 := fun q => c_168 (congrArg nI q)
      refine z_iload_n C d_R_readBeforeAtom_171 rfl rfl ?_
      refine z_bipush (v := nI 100) C d_R_readBeforeAtom_172 (by decide) ?_
      refine z_icmp_eq (tgt := 183) C d_R_readBeforeAtom_174 (by decide) (fun c_174 => ?_) (fun c_174 => ?_)
      · have c_174 : c = 100 := (nI_eq (a := c) (b := 100) (by omega) (by omega)).mp c_174
        refine z_aload_n C d_R_readBeforeAtom_183 rfl rfl ?_
        refine z_iload_n C d_R_readBeforeAtom_184 rfl rfl ?_
        refine z_callV (rest := []) (n := 1) (As := [.int (nI c)]) C (r_readOpening E X.2.1 sz _ H c hc (by omega)) ⟨z_cb C k_R_readOpening ml_R_96 ii_R rfl rfl (by decide +kernel) ⟨by decide, by decide⟩, C.2.2.2.2.1 _ im_R_readOpening, C.2.2.2.2.1 _ se_R_readOpening⟩ h0 rfl rfl rfl (Nat.le_of_ble_eq_true rfl) d_R_readBeforeAtom_185 ⟨by decide, by decide⟩ ?_
        intro v_185 s_185 M_185 hp_185
        obtain ⟨rfl, rfl, hfr_185, H_185⟩ := hp_185
        have eend : r_bef cs c (o, a, b, n, i, k, w, y, h, ps, t) = r_op cs c (o, a, b, n, i, k, w, y, h, ps, t) := by simp only [r_bef]; rw [if_neg (show ¬ (y = 1 ∧ (c = 43 ∨ c = 45)) by assumption), if_neg (show ¬ (isD c) by assumption), if_neg (show ¬ (c = 37) by assumption), if_neg (show ¬ (c = 120) by assumption), if_neg (show ¬ (isNm c) by assumption), if_pos (show c = 40 ∨ c = 100 ∨ c = 115 by omega)]
        show Z _ _ _ _ _ _ _ _ 188 _ []
        refine z_goto (tgt := 196) C d_R_readBeforeAtom_188 (by decide) ?_
        exact z_vret C ⟨rfl, rfl, hfr_185, by rw [eend]; exact H_185⟩ d_R_readBeforeAtom_196
      · have c_174 : ¬ c = 100 := fun q => c_174 (congrArg nI q)
        refine z_iload_n C d_R_readBeforeAtom_177 rfl rfl ?_
        refine z_bipush (v := nI 115) C d_R_readBeforeAtom_178 (by decide) ?_
        refine z_icmp_ne (tgt := 191) C d_R_readBeforeAtom_180 (by decide) (fun c_180 => ?_) (fun c_180 => ?_)
        · have c_180 : ¬ c = 115 := fun q => c_180 (congrArg nI q)
          refine z_aload_n C d_R_readBeforeAtom_191 rfl rfl ?_
          refine z_iconst (v := nI 1) C d_R_readBeforeAtom_192 (by decide) ?_
          refine z_put C in_R ty_R tok_R nm_R h0 rfl 7 (by decide) fl_R_39 rfl rfl rfl (rfl) (rfl) (Nat.le_of_ble_eq_true rfl) d_R_readBeforeAtom_193 ?_
          show Z _ _ _ _ _ _ _ (zU M r (.inr (5, [.ref (r + 1), .ref (r + 2), .ref (r + 3), .int (nI n), .ref p, .ref (p + 2), .int (nI i), .int (nI 1), .int (nI w), .int (nI y), .int (nI h)]))) _ _ _
          have hoGend : zoutR M (zU M r (.inr (5, [.ref (r + 1), .ref (r + 2), .ref (r + 3), .int (nI n), .ref p, .ref (p + 2), .int (nI i), .int (nI 1), .int (nI w), .int (nI y), .int (nI h)]))) r (r + 4) := (fun q hq => (zU_ne (by omega)))
          have Gend : zrd E (zU M r (.inr (5, [.ref (r + 1), .ref (r + 2), .ref (r + 3), .int (nI n), .ref p, .ref (p + 2), .int (nI i), .int (nI 1), .int (nI w), .int (nI y), .int (nI h)]))) r p cs (o, a, b, n, i, 1, w, y, h, ps, t) := ⟨zU_eq, (zU_ne (by omega)).trans h1, (zU_ne (by omega)).trans h2, (zU_ne (by omega)).trans h3, zpg_oR hoGend hg (by omega), zln_oR hoGend hz (by omega), hpr, bo, ba, bb, by omega, by omega, by omega, by omega, by omega⟩
          have eend : r_bef cs c (o, a, b, n, i, k, w, y, h, ps, t) = (o, a, b, n, i, 1, w, y, h, ps, t) := by
            simp only [r_bef]; rw [if_neg (show ¬ (y = 1 ∧ (c = 43 ∨ c = 45)) by assumption), if_neg (show ¬ (isD c) by assumption), if_neg (show ¬ (c = 37) by assumption), if_neg (show ¬ (c = 120) by assumption), if_neg (show ¬ (isNm c) by assumption), if_neg (show ¬ (c = 40 ∨ c = 100 ∨ c = 115) by omega)]
          exact z_vret C ⟨rfl, rfl, (zoutR_tr zoutR_rf (zoutR_w (show zoutR M (zU M r (.inr (5, [.ref (r + 1), .ref (r + 2), .ref (r + 3), .int (nI n), .ref p, .ref (p + 2), .int (nI i), .int (nI 1), .int (nI w), .int (nI y), .int (nI h)]))) r (r + 4) from (fun q hq => (zU_ne (by omega)))) (by omega) (by omega))), by rw [eend]; exact Gend⟩ d_R_readBeforeAtom_196
        · have c_180 : c = 115 := (nI_eq (a := c) (b := 115) (by omega) (by omega)).mp c_180
          refine z_aload_n C d_R_readBeforeAtom_183 rfl rfl ?_
          refine z_iload_n C d_R_readBeforeAtom_184 rfl rfl ?_
          refine z_callV (rest := []) (n := 1) (As := [.int (nI c)]) C (r_readOpening E X.2.1 sz _ H c hc (by omega)) ⟨z_cb C k_R_readOpening ml_R_96 ii_R rfl rfl (by decide +kernel) ⟨by decide, by decide⟩, C.2.2.2.2.1 _ im_R_readOpening, C.2.2.2.2.1 _ se_R_readOpening⟩ h0 rfl rfl rfl (Nat.le_of_ble_eq_true rfl) d_R_readBeforeAtom_185 ⟨by decide, by decide⟩ ?_
          intro v_185 s_185 M_185 hp_185
          obtain ⟨rfl, rfl, hfr_185, H_185⟩ := hp_185
          have eend : r_bef cs c (o, a, b, n, i, k, w, y, h, ps, t) = r_op cs c (o, a, b, n, i, k, w, y, h, ps, t) := by simp only [r_bef]; rw [if_neg (show ¬ (y = 1 ∧ (c = 43 ∨ c = 45)) by assumption), if_neg (show ¬ (isD c) by assumption), if_neg (show ¬ (c = 37) by assumption), if_neg (show ¬ (c = 120) by assumption), if_neg (show ¬ (isNm c) by assumption), if_pos (show c = 40 ∨ c = 100 ∨ c = 115 by omega)]
          show Z _ _ _ _ _ _ _ _ 188 _ []
          refine z_goto (tgt := 196) C d_R_readBeforeAtom_188 (by decide) ?_
          exact z_vret C ⟨rfl, rfl, hfr_185, by rw [eend]; exact H_185⟩ d_R_readBeforeAtom_196
  have k58 : ¬ (y = 1 ∧ (c = 43 ∨ c = 45)) → Z X E 2 (zQ X E 0 0 (fun v s M' => none = v ∧ sz = s ∧ zoutR M M' (p + 2) (r + 4) ∧ zrd E M' r p cs (r_bef cs c (o, a, b, n, i, k, w, y, h, ps, t)))) 0 0 sz M 58 [(0, .ref r), (1, .int (nI c))] [] := by
    intro q1
    refine z_iload_n C d_R_readBeforeAtom_58 rfl rfl ?_
    refine z_callS (rest := []) (n := 1) (As := [.int (nI c)]) C (r_isDigit E X.2.1 sz _ c (by omega)) ⟨z_cb C k_R_isDigit ml_R_84 ii_R rfl rfl (by decide +kernel) ⟨by decide, by decide⟩, C.2.2.2.2.1 _ sm_R_isDigit⟩ rfl rfl (Nat.le_of_ble_eq_true rfl) d_R_readBeforeAtom_59 ⟨by decide, by decide⟩ ?_
    intro v_59 s_59 M_59 hp_59
    obtain ⟨rfl, rfl, rfl⟩ := hp_59
    show Z _ _ _ _ _ _ _ _ 62 _ [.int (nI (if isD c then 1 else 0))]
    refine z_if_eq (tgt := 80) C d_R_readBeforeAtom_62 (by decide) (fun c_62 => ?_) (fun c_62 => ?_)
    · have c_62 : ¬ isD c := fun q => by rw [if_pos q] at c_62; exact absurd c_62 (by decide)
      refine z_iload_n C d_R_readBeforeAtom_80 rfl rfl ?_
      refine z_bipush (v := nI 37) C d_R_readBeforeAtom_81 (by decide) ?_
      refine z_icmp_ne (tgt := 111) C d_R_readBeforeAtom_83 (by decide) (fun c_83 => ?_) (fun c_83 => ?_)
      · have c_83 : ¬ c = 37 := fun q => c_83 (congrArg nI q)
        refine z_iload_n C d_R_readBeforeAtom_111 rfl rfl ?_
        refine z_bipush (v := nI 120) C d_R_readBeforeAtom_112 (by decide) ?_
        refine z_icmp_ne (tgt := 136) C d_R_readBeforeAtom_114 (by decide) (fun c_114 => ?_) (fun c_114 => ?_)
        · have c_114 : ¬ c = 120 := fun q => c_114 (congrArg nI q)
          refine z_iload_n C d_R_readBeforeAtom_136 rfl rfl ?_
          refine z_callS (rest := []) (n := 1) (As := [.int (nI c)]) C (r_isName E X.2.1 sz _ c (by omega)) ⟨z_cb C k_R_isName ml_R_74 ii_R rfl rfl (by decide +kernel) ⟨by decide, by decide⟩, C.2.2.2.2.1 _ sm_R_isName⟩ rfl rfl (Nat.le_of_ble_eq_true rfl) d_R_readBeforeAtom_137 ⟨by decide, by decide⟩ ?_
          intro v_137 s_137 M_137 hp_137
          obtain ⟨rfl, rfl, rfl⟩ := hp_137
          show Z _ _ _ _ _ _ _ _ 140 _ [.int (nI (if isNm c then 1 else 0))]
          refine z_if_eq (tgt := 165) C d_R_readBeforeAtom_140 (by decide) (fun c_140 => ?_) (fun c_140 => ?_)
          · have c_140 : ¬ isNm c := fun q => by rw [if_pos q] at c_140; exact absurd c_140 (by decide)
            exact k165 q1 c_62 c_83 c_114 c_140
          · have c_140 : isNm c := by
              by_cases q : isNm c
              · exact q
              · exact absurd (by rw [if_neg q]; rfl) c_140
            refine z_aload_n C d_R_readBeforeAtom_143 rfl rfl ?_
            refine z_dup C d_R_readBeforeAtom_144 rfl ?_
            refine z_get C in_R h0 rfl 6 (by decide) fl_R_35 rfl rfl d_R_readBeforeAtom_145 ?_
            refine z_iconst (v := nI 1) C d_R_readBeforeAtom_148 (by decide) ?_
            refine z_iadd C d_R_readBeforeAtom_149 ?_
            refine z_top (y := nI (i + 1)) (nI_add _ _) ?_
            refine z_put C in_R ty_R tok_R nm_R h0 rfl 6 (by decide) fl_R_35 rfl rfl rfl (rfl) (rfl) (Nat.le_of_ble_eq_true rfl) d_R_readBeforeAtom_150 ?_
            show Z _ _ _ _ _ _ _ (zU M r (.inr (5, [.ref (r + 1), .ref (r + 2), .ref (r + 3), .int (nI n), .ref p, .ref (p + 2), .int (nI (i + 1)), .int (nI k), .int (nI w), .int (nI y), .int (nI h)]))) _ _ _
            refine z_aload_n C d_R_readBeforeAtom_153 rfl rfl ?_
            refine z_iconst (v := nI 3) C d_R_readBeforeAtom_154 (by decide) ?_
            refine z_iload_n C d_R_readBeforeAtom_155 rfl rfl ?_
            refine z_bipush (v := nI 97) C d_R_readBeforeAtom_156 (by decide) ?_
            refine z_isub C d_R_readBeforeAtom_158 ?_
            refine z_top (y := nI (c - 97)) (pk_sub c_140.1) ?_
            have hoG_159 : zoutR M (zU M r (.inr (5, [.ref (r + 1), .ref (r + 2), .ref (r + 3), .int (nI n), .ref p, .ref (p + 2), .int (nI (i + 1)), .int (nI k), .int (nI w), .int (nI y), .int (nI h)]))) r (r + 4) := (fun q hq => (zU_ne (by omega)))
            have G_159 : zrd E (zU M r (.inr (5, [.ref (r + 1), .ref (r + 2), .ref (r + 3), .int (nI n), .ref p, .ref (p + 2), .int (nI (i + 1)), .int (nI k), .int (nI w), .int (nI y), .int (nI h)]))) r p cs (o, a, b, n, (i + 1), k, w, y, h, ps, t) := ⟨zU_eq, (zU_ne (by omega)).trans h1, (zU_ne (by omega)).trans h2, (zU_ne (by omega)).trans h3, zpg_oR hoG_159 hg (by omega), zln_oR hoG_159 hz (by omega), hpr, bo, ba, bb, by omega, by omega, by omega, by omega, by omega⟩
            refine z_callV (rest := []) (n := 2) (As := [.int (nI 3), .int (nI (c - 97))]) C (r_endAtom E X.2.1 sz _ G_159 (3, ((c - 97 : Nat) : Int)) rfl rfl) ⟨z_cb C k_R_endAtom ml_R_92 ii_R rfl rfl (by decide +kernel) ⟨by decide, by decide⟩, C.2.2.2.2.1 _ im_R_endAtom, C.2.2.2.2.1 _ se_R_endAtom⟩ G_159.1 rfl rfl rfl (Nat.le_of_ble_eq_true rfl) d_R_readBeforeAtom_159 ⟨by decide, by decide⟩ ?_
            intro v_159 s_159 M_159 hp_159
            obtain ⟨rfl, rfl, hfr_159, H_159⟩ := hp_159
            obtain ⟨h0_159, h1_159, h2_159, h3_159, hg_159, hz_159, hpr_159, bo_159, ba_159, bb_159, bn_159, bk_159, bw_159, b_y_159, bh_159⟩ := id H_159
            show Z _ _ _ _ _ _ _ _ 162 _ []
            refine z_goto (tgt := 196) C d_R_readBeforeAtom_162 (by decide) ?_
            have hoGend : zoutR M_159 M_159 r (r + 4) := zoutR_rf
            have Gend : zrd E M_159 r p cs (o, a, b, n, (i + 1), k, 0, y, 1, (addp ps (3, ((c - 97 : Nat) : Int))), t) := ⟨h0_159, h1_159, h2_159, h3_159, zpg_oR hoGend hg_159 (by omega), zln_oR hoGend hz_159 (by omega), hpr_159, bo_159, ba_159, bb_159, by omega, by omega, by omega, by omega, by omega⟩
            have eend : r_bef cs c (o, a, b, n, i, k, w, y, h, ps, t) = (o, a, b, n, (i + 1), k, 0, y, 1, (addp ps (3, ((c - 97 : Nat) : Int))), t) := by
              simp only [r_bef]; rw [if_neg (show ¬ (y = 1 ∧ (c = 43 ∨ c = 45)) by assumption), if_neg (show ¬ (isD c) by assumption), if_neg (show ¬ (c = 37) by assumption), if_neg (show ¬ (c = 120) by assumption), if_pos (show isNm c by assumption)]; rfl
            exact z_vret C ⟨rfl, rfl, (zoutR_tr (zoutR_tr (zoutR_tr zoutR_rf (zoutR_w (show zoutR M (zU M r (.inr (5, [.ref (r + 1), .ref (r + 2), .ref (r + 3), .int (nI n), .ref p, .ref (p + 2), .int (nI (i + 1)), .int (nI k), .int (nI w), .int (nI y), .int (nI h)]))) r (r + 4) from (fun q hq => (zU_ne (by omega)))) (by omega) (by omega))) hfr_159) (zoutR_w (show zoutR M_159 M_159 r (r + 4) from zoutR_rf) (by omega) (by omega))), by rw [eend]; exact Gend⟩ d_R_readBeforeAtom_196
        · have c_114 : c = 120 := (nI_eq (a := c) (b := 120) (by omega) (by omega)).mp c_114
          refine z_aload_n C d_R_readBeforeAtom_117 rfl rfl ?_
          refine z_dup C d_R_readBeforeAtom_118 rfl ?_
          refine z_get C in_R h0 rfl 6 (by decide) fl_R_35 rfl rfl d_R_readBeforeAtom_119 ?_
          refine z_iconst (v := nI 1) C d_R_readBeforeAtom_122 (by decide) ?_
          refine z_iadd C d_R_readBeforeAtom_123 ?_
          refine z_top (y := nI (i + 1)) (nI_add _ _) ?_
          refine z_put C in_R ty_R tok_R nm_R h0 rfl 6 (by decide) fl_R_35 rfl rfl rfl (rfl) (rfl) (Nat.le_of_ble_eq_true rfl) d_R_readBeforeAtom_124 ?_
          show Z _ _ _ _ _ _ _ (zU M r (.inr (5, [.ref (r + 1), .ref (r + 2), .ref (r + 3), .int (nI n), .ref p, .ref (p + 2), .int (nI (i + 1)), .int (nI k), .int (nI w), .int (nI y), .int (nI h)]))) _ _ _
          refine z_aload_n C d_R_readBeforeAtom_127 rfl rfl ?_
          refine z_iconst (v := nI 2) C d_R_readBeforeAtom_128 (by decide) ?_
          refine z_iconst (v := nI 0) C d_R_readBeforeAtom_129 (by decide) ?_
          have hoG_130 : zoutR M (zU M r (.inr (5, [.ref (r + 1), .ref (r + 2), .ref (r + 3), .int (nI n), .ref p, .ref (p + 2), .int (nI (i + 1)), .int (nI k), .int (nI w), .int (nI y), .int (nI h)]))) r (r + 4) := (fun q hq => (zU_ne (by omega)))
          have G_130 : zrd E (zU M r (.inr (5, [.ref (r + 1), .ref (r + 2), .ref (r + 3), .int (nI n), .ref p, .ref (p + 2), .int (nI (i + 1)), .int (nI k), .int (nI w), .int (nI y), .int (nI h)]))) r p cs (o, a, b, n, (i + 1), k, w, y, h, ps, t) := ⟨zU_eq, (zU_ne (by omega)).trans h1, (zU_ne (by omega)).trans h2, (zU_ne (by omega)).trans h3, zpg_oR hoG_130 hg (by omega), zln_oR hoG_130 hz (by omega), hpr, bo, ba, bb, by omega, by omega, by omega, by omega, by omega⟩
          refine z_callV (rest := []) (n := 2) (As := [.int (nI 2), .int (nI 0)]) C (r_endAtom E X.2.1 sz _ G_130 (2, 0) rfl rfl) ⟨z_cb C k_R_endAtom ml_R_92 ii_R rfl rfl (by decide +kernel) ⟨by decide, by decide⟩, C.2.2.2.2.1 _ im_R_endAtom, C.2.2.2.2.1 _ se_R_endAtom⟩ G_130.1 rfl rfl rfl (Nat.le_of_ble_eq_true rfl) d_R_readBeforeAtom_130 ⟨by decide, by decide⟩ ?_
          intro v_130 s_130 M_130 hp_130
          obtain ⟨rfl, rfl, hfr_130, H_130⟩ := hp_130
          obtain ⟨h0_130, h1_130, h2_130, h3_130, hg_130, hz_130, hpr_130, bo_130, ba_130, bb_130, bn_130, bk_130, bw_130, b_y_130, bh_130⟩ := id H_130
          show Z _ _ _ _ _ _ _ _ 133 _ []
          refine z_goto (tgt := 196) C d_R_readBeforeAtom_133 (by decide) ?_
          have hoGend : zoutR M_130 M_130 r (r + 4) := zoutR_rf
          have Gend : zrd E M_130 r p cs (o, a, b, n, (i + 1), k, 0, y, 1, (addp ps (2, 0)), t) := ⟨h0_130, h1_130, h2_130, h3_130, zpg_oR hoGend hg_130 (by omega), zln_oR hoGend hz_130 (by omega), hpr_130, bo_130, ba_130, bb_130, by omega, by omega, by omega, by omega, by omega⟩
          have eend : r_bef cs c (o, a, b, n, i, k, w, y, h, ps, t) = (o, a, b, n, (i + 1), k, 0, y, 1, (addp ps (2, 0)), t) := by
            simp only [r_bef]; rw [if_neg (show ¬ (y = 1 ∧ (c = 43 ∨ c = 45)) by assumption), if_neg (show ¬ (isD c) by assumption), if_neg (show ¬ (c = 37) by assumption), if_pos (show c = 120 by assumption)]; rfl
          exact z_vret C ⟨rfl, rfl, (zoutR_tr (zoutR_tr (zoutR_tr zoutR_rf (zoutR_w (show zoutR M (zU M r (.inr (5, [.ref (r + 1), .ref (r + 2), .ref (r + 3), .int (nI n), .ref p, .ref (p + 2), .int (nI (i + 1)), .int (nI k), .int (nI w), .int (nI y), .int (nI h)]))) r (r + 4) from (fun q hq => (zU_ne (by omega)))) (by omega) (by omega))) hfr_130) (zoutR_w (show zoutR M_130 M_130 r (r + 4) from zoutR_rf) (by omega) (by omega))), by rw [eend]; exact Gend⟩ d_R_readBeforeAtom_196
      · have c_83 : c = 37 := (nI_eq (a := c) (b := 37) (by omega) (by omega)).mp c_83
        refine z_aload_n C d_R_readBeforeAtom_86 rfl rfl ?_
        refine z_dup C d_R_readBeforeAtom_87 rfl ?_
        refine z_get C in_R h0 rfl 6 (by decide) fl_R_35 rfl rfl d_R_readBeforeAtom_88 ?_
        refine z_iconst (v := nI 1) C d_R_readBeforeAtom_91 (by decide) ?_
        refine z_iadd C d_R_readBeforeAtom_92 ?_
        refine z_top (y := nI (i + 1)) (nI_add _ _) ?_
        refine z_put C in_R ty_R tok_R nm_R h0 rfl 6 (by decide) fl_R_35 rfl rfl rfl (rfl) (rfl) (Nat.le_of_ble_eq_true rfl) d_R_readBeforeAtom_93 ?_
        show Z _ _ _ _ _ _ _ (zU M r (.inr (5, [.ref (r + 1), .ref (r + 2), .ref (r + 3), .int (nI n), .ref p, .ref (p + 2), .int (nI (i + 1)), .int (nI k), .int (nI w), .int (nI y), .int (nI h)]))) _ _ _
        refine z_aload_n C d_R_readBeforeAtom_96 rfl rfl ?_
        refine z_iconst (v := nI 4) C d_R_readBeforeAtom_97 (by decide) ?_
        refine z_aload_n C d_R_readBeforeAtom_98 rfl rfl ?_
        refine z_iconst (v := nI 2) C d_R_readBeforeAtom_99 (by decide) ?_
        refine z_bipush (v := nI 99) C d_R_readBeforeAtom_100 (by decide) ?_
        have hr_102 := rnum_le cs 99 2 0 (i + 1)
        have hoG_102 : zoutR M (zU M r (.inr (5, [.ref (r + 1), .ref (r + 2), .ref (r + 3), .int (nI n), .ref p, .ref (p + 2), .int (nI (i + 1)), .int (nI k), .int (nI w), .int (nI y), .int (nI h)]))) r (r + 4) := (fun q hq => (zU_ne (by omega)))
        have G_102 : zrd E (zU M r (.inr (5, [.ref (r + 1), .ref (r + 2), .ref (r + 3), .int (nI n), .ref p, .ref (p + 2), .int (nI (i + 1)), .int (nI k), .int (nI w), .int (nI y), .int (nI h)]))) r p cs (o, a, b, n, (i + 1), k, w, y, h, ps, t) := ⟨zU_eq, (zU_ne (by omega)).trans h1, (zU_ne (by omega)).trans h2, (zU_ne (by omega)).trans h3, zpg_oR hoG_102 hg (by omega), zln_oR hoG_102 hz (by omega), hpr, bo, ba, bb, by omega, by omega, by omega, by omega, by omega⟩
        refine z_callV (rest := [.int (nI 4), .ref r]) (n := 2) (As := [.int (nI 2), .int (nI 99)]) C (r_readNumber E X.2.1 sz _ G_102 2 99 (by omega) (by omega) (by omega)) ⟨z_cb C k_R_readNumber ml_R_88 ii_R rfl rfl (by decide +kernel) ⟨by decide, by decide⟩, C.2.2.2.2.1 _ im_R_readNumber, C.2.2.2.2.1 _ se_R_readNumber⟩ G_102.1 rfl rfl rfl (Nat.le_of_ble_eq_true rfl) d_R_readBeforeAtom_102 ⟨by decide, by decide⟩ ?_
        intro v_102 s_102 M_102 hp_102
        obtain ⟨rfl, rfl, hfr_102, H_102⟩ := hp_102
        obtain ⟨h0_102, h1_102, h2_102, h3_102, hg_102, hz_102, hpr_102, bo_102, ba_102, bb_102, bn_102, bk_102, bw_102, b_y_102, bh_102⟩ := id H_102
        show Z _ _ _ _ _ _ _ _ 105 _ [.int (nI (rnum cs 99 2 0 (i + 1)).1), .int (nI 4), .ref r]
        have hoG_105 : zoutR M_102 M_102 r (r + 4) := zoutR_rf
        have G_105 : zrd E M_102 r p cs (o, a, b, n, (rnum cs 99 2 0 (i + 1)).2, (if (rnum cs 99 2 0 (i + 1)).2 = (i + 1) then 1 else k), w, y, h, ps, t) := ⟨h0_102, h1_102, h2_102, h3_102, zpg_oR hoG_105 hg_102 (by omega), zln_oR hoG_105 hz_102 (by omega), hpr_102, bo_102, ba_102, bb_102, by omega, by omega, by omega, by omega, by omega⟩
        refine z_callV (rest := []) (n := 2) (As := [.int (nI 4), .int (nI (rnum cs 99 2 0 (i + 1)).1)]) C (r_endAtom E X.2.1 sz _ G_105 (4, ((rnum cs 99 2 0 (i + 1)).1 : Int)) rfl rfl) ⟨z_cb C k_R_endAtom ml_R_92 ii_R rfl rfl (by decide +kernel) ⟨by decide, by decide⟩, C.2.2.2.2.1 _ im_R_endAtom, C.2.2.2.2.1 _ se_R_endAtom⟩ G_105.1 rfl rfl rfl (Nat.le_of_ble_eq_true rfl) d_R_readBeforeAtom_105 ⟨by decide, by decide⟩ ?_
        intro v_105 s_105 M_105 hp_105
        obtain ⟨rfl, rfl, hfr_105, H_105⟩ := hp_105
        obtain ⟨h0_105, h1_105, h2_105, h3_105, hg_105, hz_105, hpr_105, bo_105, ba_105, bb_105, bn_105, bk_105, bw_105, b_y_105, bh_105⟩ := id H_105
        show Z _ _ _ _ _ _ _ _ 108 _ []
        refine z_goto (tgt := 196) C d_R_readBeforeAtom_108 (by decide) ?_
        have hoGend : zoutR M_105 M_105 r (r + 4) := zoutR_rf
        have Gend : zrd E M_105 r p cs (o, a, b, n, (rnum cs 99 2 0 (i + 1)).2, (if (rnum cs 99 2 0 (i + 1)).2 = (i + 1) then 1 else k), 0, y, 1, (addp ps (4, ((rnum cs 99 2 0 (i + 1)).1 : Int))), t) := ⟨h0_105, h1_105, h2_105, h3_105, zpg_oR hoGend hg_105 (by omega), zln_oR hoGend hz_105 (by omega), hpr_105, bo_105, ba_105, bb_105, by omega, by omega, by omega, by omega, by omega⟩
        have eend : r_bef cs c (o, a, b, n, i, k, w, y, h, ps, t) = (o, a, b, n, (rnum cs 99 2 0 (i + 1)).2, (if (rnum cs 99 2 0 (i + 1)).2 = (i + 1) then 1 else k), 0, y, 1, (addp ps (4, ((rnum cs 99 2 0 (i + 1)).1 : Int))), t) := by
          simp only [r_bef]; rw [if_neg (show ¬ (y = 1 ∧ (c = 43 ∨ c = 45)) by assumption), if_neg (show ¬ (isD c) by assumption), if_pos (show c = 37 by assumption)]; rfl
        exact z_vret C ⟨rfl, rfl, (zoutR_tr (zoutR_tr (zoutR_tr (zoutR_tr (zoutR_tr zoutR_rf (zoutR_w (show zoutR M (zU M r (.inr (5, [.ref (r + 1), .ref (r + 2), .ref (r + 3), .int (nI n), .ref p, .ref (p + 2), .int (nI (i + 1)), .int (nI k), .int (nI w), .int (nI y), .int (nI h)]))) r (r + 4) from (fun q hq => (zU_ne (by omega)))) (by omega) (by omega))) hfr_102) (zoutR_w (show zoutR M_102 M_102 r (r + 4) from zoutR_rf) (by omega) (by omega))) hfr_105) (zoutR_w (show zoutR M_105 M_105 r (r + 4) from zoutR_rf) (by omega) (by omega))), by rw [eend]; exact Gend⟩ d_R_readBeforeAtom_196
    · have c_62 : isD c := by
        by_cases q : isD c
        · exact q
        · exact absurd (by rw [if_neg q]; rfl) c_62
      refine z_aload_n C d_R_readBeforeAtom_65 rfl rfl ?_
      refine z_iconst (v := nI 1) C d_R_readBeforeAtom_66 (by decide) ?_
      refine z_aload_n C d_R_readBeforeAtom_67 rfl rfl ?_
      refine z_iconst (v := nI 5) C d_R_readBeforeAtom_68 (by decide) ?_
      refine z_ldc (v := 99999) C kc_R_87 d_R_readBeforeAtom_69 ?_
      refine z_top (y := nI 99999) (by decide) ?_
      have hr_71 := rnum_le cs 99999 5 0 i
      have hoG_71 : zoutR M M r (r + 4) := zoutR_rf
      have G_71 : zrd E M r p cs (o, a, b, n, i, k, w, y, h, ps, t) := ⟨h0, h1, h2, h3, zpg_oR hoG_71 hg (by omega), zln_oR hoG_71 hz (by omega), hpr, bo, ba, bb, by omega, by omega, by omega, by omega, by omega⟩
      refine z_callV (rest := [.int (nI 1), .ref r]) (n := 2) (As := [.int (nI 5), .int (nI 99999)]) C (r_readNumber E X.2.1 sz _ G_71 5 99999 (by omega) (by omega) (by omega)) ⟨z_cb C k_R_readNumber ml_R_88 ii_R rfl rfl (by decide +kernel) ⟨by decide, by decide⟩, C.2.2.2.2.1 _ im_R_readNumber, C.2.2.2.2.1 _ se_R_readNumber⟩ G_71.1 rfl rfl rfl (Nat.le_of_ble_eq_true rfl) d_R_readBeforeAtom_71 ⟨by decide, by decide⟩ ?_
      intro v_71 s_71 M_71 hp_71
      obtain ⟨rfl, rfl, hfr_71, H_71⟩ := hp_71
      obtain ⟨h0_71, h1_71, h2_71, h3_71, hg_71, hz_71, hpr_71, bo_71, ba_71, bb_71, bn_71, bk_71, bw_71, b_y_71, bh_71⟩ := id H_71
      show Z _ _ _ _ _ _ _ _ 74 _ [.int (nI (rnum cs 99999 5 0 i).1), .int (nI 1), .ref r]
      have hoG_74 : zoutR M_71 M_71 r (r + 4) := zoutR_rf
      have G_74 : zrd E M_71 r p cs (o, a, b, n, (rnum cs 99999 5 0 i).2, (if (rnum cs 99999 5 0 i).2 = i then 1 else k), w, y, h, ps, t) := ⟨h0_71, h1_71, h2_71, h3_71, zpg_oR hoG_74 hg_71 (by omega), zln_oR hoG_74 hz_71 (by omega), hpr_71, bo_71, ba_71, bb_71, by omega, by omega, by omega, by omega, by omega⟩
      refine z_callV (rest := []) (n := 2) (As := [.int (nI 1), .int (nI (rnum cs 99999 5 0 i).1)]) C (r_endAtom E X.2.1 sz _ G_74 (1, ((rnum cs 99999 5 0 i).1 : Int)) rfl rfl) ⟨z_cb C k_R_endAtom ml_R_92 ii_R rfl rfl (by decide +kernel) ⟨by decide, by decide⟩, C.2.2.2.2.1 _ im_R_endAtom, C.2.2.2.2.1 _ se_R_endAtom⟩ G_74.1 rfl rfl rfl (Nat.le_of_ble_eq_true rfl) d_R_readBeforeAtom_74 ⟨by decide, by decide⟩ ?_
      intro v_74 s_74 M_74 hp_74
      obtain ⟨rfl, rfl, hfr_74, H_74⟩ := hp_74
      obtain ⟨h0_74, h1_74, h2_74, h3_74, hg_74, hz_74, hpr_74, bo_74, ba_74, bb_74, bn_74, bk_74, bw_74, b_y_74, bh_74⟩ := id H_74
      show Z _ _ _ _ _ _ _ _ 77 _ []
      refine z_goto (tgt := 196) C d_R_readBeforeAtom_77 (by decide) ?_
      have hoGend : zoutR M_74 M_74 r (r + 4) := zoutR_rf
      have Gend : zrd E M_74 r p cs (o, a, b, n, (rnum cs 99999 5 0 i).2, (if (rnum cs 99999 5 0 i).2 = i then 1 else k), 0, y, 1, (addp ps (1, ((rnum cs 99999 5 0 i).1 : Int))), t) := ⟨h0_74, h1_74, h2_74, h3_74, zpg_oR hoGend hg_74 (by omega), zln_oR hoGend hz_74 (by omega), hpr_74, bo_74, ba_74, bb_74, by omega, by omega, by omega, by omega, by omega⟩
      have eend : r_bef cs c (o, a, b, n, i, k, w, y, h, ps, t) = (o, a, b, n, (rnum cs 99999 5 0 i).2, (if (rnum cs 99999 5 0 i).2 = i then 1 else k), 0, y, 1, (addp ps (1, ((rnum cs 99999 5 0 i).1 : Int))), t) := by
        simp only [r_bef]; rw [if_neg (show ¬ (y = 1 ∧ (c = 43 ∨ c = 45)) by assumption), if_pos (show isD c by assumption)]; rfl
      exact z_vret C ⟨rfl, rfl, (zoutR_tr (zoutR_tr (zoutR_tr (zoutR_tr (zoutR_tr zoutR_rf (zoutR_w (show zoutR M M r (r + 4) from zoutR_rf) (by omega) (by omega))) hfr_71) (zoutR_w (show zoutR M_71 M_71 r (r + 4) from zoutR_rf) (by omega) (by omega))) hfr_74) (zoutR_w (show zoutR M_74 M_74 r (r + 4) from zoutR_rf) (by omega) (by omega))), by rw [eend]; exact Gend⟩ d_R_readBeforeAtom_196
  show Z X E 2 _ 0 0 sz M 0 [(0, .ref r), (1, .int (nI c))] []
  refine z_aload_n C d_R_readBeforeAtom_0 rfl rfl ?_
  refine z_get C in_R h0 rfl 9 (by decide) fl_R_81 rfl rfl d_R_readBeforeAtom_1 ?_
  refine z_if_eq (tgt := 58) C d_R_readBeforeAtom_4 (by decide) (fun c_4 => ?_) (fun c_4 => ?_)
  · have c_4 : y = 0 := (nI_eq (a := y) (b := 0) (by omega) (by omega)).mp c_4
    exact k58 (by omega)
  · have c_4 : ¬ y = 0 := fun q => c_4 (congrArg nI q)
    refine z_iload_n C d_R_readBeforeAtom_7 rfl rfl ?_
    refine z_bipush (v := nI 43) C d_R_readBeforeAtom_8 (by decide) ?_
    refine z_icmp_eq (tgt := 19) C d_R_readBeforeAtom_10 (by decide) (fun c_10 => ?_) (fun c_10 => ?_)
    · have c_10 : c = 43 := (nI_eq (a := c) (b := 43) (by omega) (by omega)).mp c_10
      refine z_aload_n C d_R_readBeforeAtom_19 rfl rfl ?_
      refine z_get C in_R h0 rfl 1 (by decide) fl_R_15 rfl rfl d_R_readBeforeAtom_20 ?_
      refine z_aload_n C d_R_readBeforeAtom_23 rfl rfl ?_
      refine z_get C in_R h0 rfl 3 (by decide) fl_R_43 rfl rfl d_R_readBeforeAtom_24 ?_
      refine z_iload_n C d_R_readBeforeAtom_27 rfl rfl ?_
      refine z_bipush (v := nI 45) C d_R_readBeforeAtom_28 (by decide) ?_
      refine z_icmp_ne (tgt := 38) C d_R_readBeforeAtom_30 (by decide) (fun c_30 => ?_) (fun c_30 => ?_)
      · have c_30 : ¬ c = 45 := fun q => c_30 (congrArg nI q)
        refine z_iconst (v := nI 0) C d_R_readBeforeAtom_38 (by decide) ?_
        refine z_iast C h2 0 rfl n (rfl) (by omega) (by omega) d_R_readBeforeAtom_39 ?_
        refine z_aload_n C d_R_readBeforeAtom_40 rfl rfl ?_
        refine z_iconst (v := nI 0) C d_R_readBeforeAtom_41 (by decide) ?_
        refine z_put C in_R ty_R tok_R nm_R ((zU_ne (by omega)).trans h0) rfl 9 (by decide) fl_R_81 rfl rfl rfl (rfl) (rfl) (Nat.le_of_ble_eq_true rfl) d_R_readBeforeAtom_42 ?_
        show Z _ _ _ _ _ _ _ (zU (zU M (r + 2) (.inl (E.2.1 0, 9, .inl (upd (fun j => nI (a j)) n (nI 0))))) r (.inr (5, [.ref (r + 1), .ref (r + 2), .ref (r + 3), .int (nI n), .ref p, .ref (p + 2), .int (nI i), .int (nI k), .int (nI w), .int (nI 0), .int (nI h)]))) _ _ _
        refine z_aload_n C d_R_readBeforeAtom_45 rfl rfl ?_
        refine z_dup C d_R_readBeforeAtom_46 rfl ?_
        refine z_get C in_R zU_eq rfl 6 (by decide) fl_R_35 rfl rfl d_R_readBeforeAtom_47 ?_
        refine z_iconst (v := nI 1) C d_R_readBeforeAtom_50 (by decide) ?_
        refine z_iadd C d_R_readBeforeAtom_51 ?_
        refine z_top (y := nI (i + 1)) (nI_add _ _) ?_
        refine z_put C in_R ty_R tok_R nm_R zU_eq rfl 6 (by decide) fl_R_35 rfl rfl rfl (rfl) (rfl) (Nat.le_of_ble_eq_true rfl) d_R_readBeforeAtom_52 ?_
        show Z _ _ _ _ _ _ _ (zU (zU (zU M (r + 2) (.inl (E.2.1 0, 9, .inl (upd (fun j => nI (a j)) n (nI 0))))) r (.inr (5, [.ref (r + 1), .ref (r + 2), .ref (r + 3), .int (nI n), .ref p, .ref (p + 2), .int (nI i), .int (nI k), .int (nI w), .int (nI 0), .int (nI h)]))) r (.inr (5, [.ref (r + 1), .ref (r + 2), .ref (r + 3), .int (nI n), .ref p, .ref (p + 2), .int (nI (i + 1)), .int (nI k), .int (nI w), .int (nI 0), .int (nI h)]))) _ _ _
        refine z_world zU_uu ?_
        refine z_goto (tgt := 196) C d_R_readBeforeAtom_55 (by decide) ?_
        have hoGend : zoutR M (zU (zU M (r + 2) (.inl (E.2.1 0, 9, .inl (upd (fun j => nI (a j)) n (nI 0))))) r (.inr (5, [.ref (r + 1), .ref (r + 2), .ref (r + 3), .int (nI n), .ref p, .ref (p + 2), .int (nI (i + 1)), .int (nI k), .int (nI w), .int (nI 0), .int (nI h)]))) r (r + 4) := (fun q hq => ((zU_ne (by omega)).trans (zU_ne (by omega))))
        have Gend : zrd E (zU (zU M (r + 2) (.inl (E.2.1 0, 9, .inl (upd (fun j => nI (a j)) n (nI 0))))) r (.inr (5, [.ref (r + 1), .ref (r + 2), .ref (r + 3), .int (nI n), .ref p, .ref (p + 2), .int (nI (i + 1)), .int (nI k), .int (nI w), .int (nI 0), .int (nI h)]))) r p cs (o, (updN a n 0), b, n, (i + 1), k, w, 0, h, ps, t) := ⟨zU_eq, (zU_ne (by omega)).trans ((zU_ne (by omega)).trans h1), (by rw [← nI_upd]; exact (zU_ne (by omega)).trans zU_eq), (zU_ne (by omega)).trans ((zU_ne (by omega)).trans h3), zpg_oR hoGend hg (by omega), zln_oR hoGend hz (by omega), hpr, bo, (updN_b ba (by first | omega | decide)), bb, by omega, by omega, by omega, by omega, by omega⟩
        have eend : r_bef cs c (o, a, b, n, i, k, w, y, h, ps, t) = (o, (updN a n 0), b, n, (i + 1), k, w, 0, h, ps, t) := by
          simp only [r_bef]; rw [if_pos (show y = 1 ∧ (c = 43 ∨ c = 45) by omega), if_neg (show ¬ c = 45 by omega)]
        exact z_vret C ⟨rfl, rfl, (zoutR_tr zoutR_rf (zoutR_w (show zoutR M (zU (zU M (r + 2) (.inl (E.2.1 0, 9, .inl (upd (fun j => nI (a j)) n (nI 0))))) r (.inr (5, [.ref (r + 1), .ref (r + 2), .ref (r + 3), .int (nI n), .ref p, .ref (p + 2), .int (nI (i + 1)), .int (nI k), .int (nI w), .int (nI 0), .int (nI h)]))) r (r + 4) from (fun q hq => ((zU_ne (by omega)).trans (zU_ne (by omega))))) (by omega) (by omega))), by rw [eend]; exact Gend⟩ d_R_readBeforeAtom_196
      · have c_30 : c = 45 := (nI_eq (a := c) (b := 45) (by omega) (by omega)).mp c_30
        refine z_bipush (v := nI 6) C d_R_readBeforeAtom_33 (by decide) ?_
        refine z_goto (tgt := 39) C d_R_readBeforeAtom_35 (by decide) ?_
        refine z_iast C h2 0 rfl n (rfl) (by omega) (by omega) d_R_readBeforeAtom_39 ?_
        refine z_aload_n C d_R_readBeforeAtom_40 rfl rfl ?_
        refine z_iconst (v := nI 0) C d_R_readBeforeAtom_41 (by decide) ?_
        refine z_put C in_R ty_R tok_R nm_R ((zU_ne (by omega)).trans h0) rfl 9 (by decide) fl_R_81 rfl rfl rfl (rfl) (rfl) (Nat.le_of_ble_eq_true rfl) d_R_readBeforeAtom_42 ?_
        show Z _ _ _ _ _ _ _ (zU (zU M (r + 2) (.inl (E.2.1 0, 9, .inl (upd (fun j => nI (a j)) n (nI 6))))) r (.inr (5, [.ref (r + 1), .ref (r + 2), .ref (r + 3), .int (nI n), .ref p, .ref (p + 2), .int (nI i), .int (nI k), .int (nI w), .int (nI 0), .int (nI h)]))) _ _ _
        refine z_aload_n C d_R_readBeforeAtom_45 rfl rfl ?_
        refine z_dup C d_R_readBeforeAtom_46 rfl ?_
        refine z_get C in_R zU_eq rfl 6 (by decide) fl_R_35 rfl rfl d_R_readBeforeAtom_47 ?_
        refine z_iconst (v := nI 1) C d_R_readBeforeAtom_50 (by decide) ?_
        refine z_iadd C d_R_readBeforeAtom_51 ?_
        refine z_top (y := nI (i + 1)) (nI_add _ _) ?_
        refine z_put C in_R ty_R tok_R nm_R zU_eq rfl 6 (by decide) fl_R_35 rfl rfl rfl (rfl) (rfl) (Nat.le_of_ble_eq_true rfl) d_R_readBeforeAtom_52 ?_
        show Z _ _ _ _ _ _ _ (zU (zU (zU M (r + 2) (.inl (E.2.1 0, 9, .inl (upd (fun j => nI (a j)) n (nI 6))))) r (.inr (5, [.ref (r + 1), .ref (r + 2), .ref (r + 3), .int (nI n), .ref p, .ref (p + 2), .int (nI i), .int (nI k), .int (nI w), .int (nI 0), .int (nI h)]))) r (.inr (5, [.ref (r + 1), .ref (r + 2), .ref (r + 3), .int (nI n), .ref p, .ref (p + 2), .int (nI (i + 1)), .int (nI k), .int (nI w), .int (nI 0), .int (nI h)]))) _ _ _
        refine z_world zU_uu ?_
        refine z_goto (tgt := 196) C d_R_readBeforeAtom_55 (by decide) ?_
        have hoGend : zoutR M (zU (zU M (r + 2) (.inl (E.2.1 0, 9, .inl (upd (fun j => nI (a j)) n (nI 6))))) r (.inr (5, [.ref (r + 1), .ref (r + 2), .ref (r + 3), .int (nI n), .ref p, .ref (p + 2), .int (nI (i + 1)), .int (nI k), .int (nI w), .int (nI 0), .int (nI h)]))) r (r + 4) := (fun q hq => ((zU_ne (by omega)).trans (zU_ne (by omega))))
        have Gend : zrd E (zU (zU M (r + 2) (.inl (E.2.1 0, 9, .inl (upd (fun j => nI (a j)) n (nI 6))))) r (.inr (5, [.ref (r + 1), .ref (r + 2), .ref (r + 3), .int (nI n), .ref p, .ref (p + 2), .int (nI (i + 1)), .int (nI k), .int (nI w), .int (nI 0), .int (nI h)]))) r p cs (o, (updN a n 6), b, n, (i + 1), k, w, 0, h, ps, t) := ⟨zU_eq, (zU_ne (by omega)).trans ((zU_ne (by omega)).trans h1), (by rw [← nI_upd]; exact (zU_ne (by omega)).trans zU_eq), (zU_ne (by omega)).trans ((zU_ne (by omega)).trans h3), zpg_oR hoGend hg (by omega), zln_oR hoGend hz (by omega), hpr, bo, (updN_b ba (by first | omega | decide)), bb, by omega, by omega, by omega, by omega, by omega⟩
        have eend : r_bef cs c (o, a, b, n, i, k, w, y, h, ps, t) = (o, (updN a n 6), b, n, (i + 1), k, w, 0, h, ps, t) := by
          simp only [r_bef]; rw [if_pos (show y = 1 ∧ (c = 43 ∨ c = 45) by omega), if_pos (show c = 45 by omega)]
        exact z_vret C ⟨rfl, rfl, (zoutR_tr zoutR_rf (zoutR_w (show zoutR M (zU (zU M (r + 2) (.inl (E.2.1 0, 9, .inl (upd (fun j => nI (a j)) n (nI 6))))) r (.inr (5, [.ref (r + 1), .ref (r + 2), .ref (r + 3), .int (nI n), .ref p, .ref (p + 2), .int (nI (i + 1)), .int (nI k), .int (nI w), .int (nI 0), .int (nI h)]))) r (r + 4) from (fun q hq => ((zU_ne (by omega)).trans (zU_ne (by omega))))) (by omega) (by omega))), by rw [eend]; exact Gend⟩ d_R_readBeforeAtom_196
    · have c_10 : ¬ c = 43 := fun q => c_10 (congrArg nI q)
      refine z_iload_n C d_R_readBeforeAtom_13 rfl rfl ?_
      refine z_bipush (v := nI 45) C d_R_readBeforeAtom_14 (by decide) ?_
      refine z_icmp_ne (tgt := 58) C d_R_readBeforeAtom_16 (by decide) (fun c_16 => ?_) (fun c_16 => ?_)
      · have c_16 : ¬ c = 45 := fun q => c_16 (congrArg nI q)
        exact k58 (by omega)
      · have c_16 : c = 45 := (nI_eq (a := c) (b := 45) (by omega) (by omega)).mp c_16
        refine z_aload_n C d_R_readBeforeAtom_19 rfl rfl ?_
        refine z_get C in_R h0 rfl 1 (by decide) fl_R_15 rfl rfl d_R_readBeforeAtom_20 ?_
        refine z_aload_n C d_R_readBeforeAtom_23 rfl rfl ?_
        refine z_get C in_R h0 rfl 3 (by decide) fl_R_43 rfl rfl d_R_readBeforeAtom_24 ?_
        refine z_iload_n C d_R_readBeforeAtom_27 rfl rfl ?_
        refine z_bipush (v := nI 45) C d_R_readBeforeAtom_28 (by decide) ?_
        refine z_icmp_ne (tgt := 38) C d_R_readBeforeAtom_30 (by decide) (fun c_30 => ?_) (fun c_30 => ?_)
        · have c_30 : ¬ c = 45 := fun q => c_30 (congrArg nI q)
          refine z_iconst (v := nI 0) C d_R_readBeforeAtom_38 (by decide) ?_
          refine z_iast C h2 0 rfl n (rfl) (by omega) (by omega) d_R_readBeforeAtom_39 ?_
          refine z_aload_n C d_R_readBeforeAtom_40 rfl rfl ?_
          refine z_iconst (v := nI 0) C d_R_readBeforeAtom_41 (by decide) ?_
          refine z_put C in_R ty_R tok_R nm_R ((zU_ne (by omega)).trans h0) rfl 9 (by decide) fl_R_81 rfl rfl rfl (rfl) (rfl) (Nat.le_of_ble_eq_true rfl) d_R_readBeforeAtom_42 ?_
          show Z _ _ _ _ _ _ _ (zU (zU M (r + 2) (.inl (E.2.1 0, 9, .inl (upd (fun j => nI (a j)) n (nI 0))))) r (.inr (5, [.ref (r + 1), .ref (r + 2), .ref (r + 3), .int (nI n), .ref p, .ref (p + 2), .int (nI i), .int (nI k), .int (nI w), .int (nI 0), .int (nI h)]))) _ _ _
          refine z_aload_n C d_R_readBeforeAtom_45 rfl rfl ?_
          refine z_dup C d_R_readBeforeAtom_46 rfl ?_
          refine z_get C in_R zU_eq rfl 6 (by decide) fl_R_35 rfl rfl d_R_readBeforeAtom_47 ?_
          refine z_iconst (v := nI 1) C d_R_readBeforeAtom_50 (by decide) ?_
          refine z_iadd C d_R_readBeforeAtom_51 ?_
          refine z_top (y := nI (i + 1)) (nI_add _ _) ?_
          refine z_put C in_R ty_R tok_R nm_R zU_eq rfl 6 (by decide) fl_R_35 rfl rfl rfl (rfl) (rfl) (Nat.le_of_ble_eq_true rfl) d_R_readBeforeAtom_52 ?_
          show Z _ _ _ _ _ _ _ (zU (zU (zU M (r + 2) (.inl (E.2.1 0, 9, .inl (upd (fun j => nI (a j)) n (nI 0))))) r (.inr (5, [.ref (r + 1), .ref (r + 2), .ref (r + 3), .int (nI n), .ref p, .ref (p + 2), .int (nI i), .int (nI k), .int (nI w), .int (nI 0), .int (nI h)]))) r (.inr (5, [.ref (r + 1), .ref (r + 2), .ref (r + 3), .int (nI n), .ref p, .ref (p + 2), .int (nI (i + 1)), .int (nI k), .int (nI w), .int (nI 0), .int (nI h)]))) _ _ _
          refine z_world zU_uu ?_
          refine z_goto (tgt := 196) C d_R_readBeforeAtom_55 (by decide) ?_
          have hoGend : zoutR M (zU (zU M (r + 2) (.inl (E.2.1 0, 9, .inl (upd (fun j => nI (a j)) n (nI 0))))) r (.inr (5, [.ref (r + 1), .ref (r + 2), .ref (r + 3), .int (nI n), .ref p, .ref (p + 2), .int (nI (i + 1)), .int (nI k), .int (nI w), .int (nI 0), .int (nI h)]))) r (r + 4) := (fun q hq => ((zU_ne (by omega)).trans (zU_ne (by omega))))
          have Gend : zrd E (zU (zU M (r + 2) (.inl (E.2.1 0, 9, .inl (upd (fun j => nI (a j)) n (nI 0))))) r (.inr (5, [.ref (r + 1), .ref (r + 2), .ref (r + 3), .int (nI n), .ref p, .ref (p + 2), .int (nI (i + 1)), .int (nI k), .int (nI w), .int (nI 0), .int (nI h)]))) r p cs (o, (updN a n 0), b, n, (i + 1), k, w, 0, h, ps, t) := ⟨zU_eq, (zU_ne (by omega)).trans ((zU_ne (by omega)).trans h1), (by rw [← nI_upd]; exact (zU_ne (by omega)).trans zU_eq), (zU_ne (by omega)).trans ((zU_ne (by omega)).trans h3), zpg_oR hoGend hg (by omega), zln_oR hoGend hz (by omega), hpr, bo, (updN_b ba (by first | omega | decide)), bb, by omega, by omega, by omega, by omega, by omega⟩
          have eend : r_bef cs c (o, a, b, n, i, k, w, y, h, ps, t) = (o, (updN a n 0), b, n, (i + 1), k, w, 0, h, ps, t) := by
            simp only [r_bef]; rw [if_pos (show y = 1 ∧ (c = 43 ∨ c = 45) by omega), if_neg (show ¬ c = 45 by omega)]
          exact z_vret C ⟨rfl, rfl, (zoutR_tr zoutR_rf (zoutR_w (show zoutR M (zU (zU M (r + 2) (.inl (E.2.1 0, 9, .inl (upd (fun j => nI (a j)) n (nI 0))))) r (.inr (5, [.ref (r + 1), .ref (r + 2), .ref (r + 3), .int (nI n), .ref p, .ref (p + 2), .int (nI (i + 1)), .int (nI k), .int (nI w), .int (nI 0), .int (nI h)]))) r (r + 4) from (fun q hq => ((zU_ne (by omega)).trans (zU_ne (by omega))))) (by omega) (by omega))), by rw [eend]; exact Gend⟩ d_R_readBeforeAtom_196
        · have c_30 : c = 45 := (nI_eq (a := c) (b := 45) (by omega) (by omega)).mp c_30
          refine z_bipush (v := nI 6) C d_R_readBeforeAtom_33 (by decide) ?_
          refine z_goto (tgt := 39) C d_R_readBeforeAtom_35 (by decide) ?_
          refine z_iast C h2 0 rfl n (rfl) (by omega) (by omega) d_R_readBeforeAtom_39 ?_
          refine z_aload_n C d_R_readBeforeAtom_40 rfl rfl ?_
          refine z_iconst (v := nI 0) C d_R_readBeforeAtom_41 (by decide) ?_
          refine z_put C in_R ty_R tok_R nm_R ((zU_ne (by omega)).trans h0) rfl 9 (by decide) fl_R_81 rfl rfl rfl (rfl) (rfl) (Nat.le_of_ble_eq_true rfl) d_R_readBeforeAtom_42 ?_
          show Z _ _ _ _ _ _ _ (zU (zU M (r + 2) (.inl (E.2.1 0, 9, .inl (upd (fun j => nI (a j)) n (nI 6))))) r (.inr (5, [.ref (r + 1), .ref (r + 2), .ref (r + 3), .int (nI n), .ref p, .ref (p + 2), .int (nI i), .int (nI k), .int (nI w), .int (nI 0), .int (nI h)]))) _ _ _
          refine z_aload_n C d_R_readBeforeAtom_45 rfl rfl ?_
          refine z_dup C d_R_readBeforeAtom_46 rfl ?_
          refine z_get C in_R zU_eq rfl 6 (by decide) fl_R_35 rfl rfl d_R_readBeforeAtom_47 ?_
          refine z_iconst (v := nI 1) C d_R_readBeforeAtom_50 (by decide) ?_
          refine z_iadd C d_R_readBeforeAtom_51 ?_
          refine z_top (y := nI (i + 1)) (nI_add _ _) ?_
          refine z_put C in_R ty_R tok_R nm_R zU_eq rfl 6 (by decide) fl_R_35 rfl rfl rfl (rfl) (rfl) (Nat.le_of_ble_eq_true rfl) d_R_readBeforeAtom_52 ?_
          show Z _ _ _ _ _ _ _ (zU (zU (zU M (r + 2) (.inl (E.2.1 0, 9, .inl (upd (fun j => nI (a j)) n (nI 6))))) r (.inr (5, [.ref (r + 1), .ref (r + 2), .ref (r + 3), .int (nI n), .ref p, .ref (p + 2), .int (nI i), .int (nI k), .int (nI w), .int (nI 0), .int (nI h)]))) r (.inr (5, [.ref (r + 1), .ref (r + 2), .ref (r + 3), .int (nI n), .ref p, .ref (p + 2), .int (nI (i + 1)), .int (nI k), .int (nI w), .int (nI 0), .int (nI h)]))) _ _ _
          refine z_world zU_uu ?_
          refine z_goto (tgt := 196) C d_R_readBeforeAtom_55 (by decide) ?_
          have hoGend : zoutR M (zU (zU M (r + 2) (.inl (E.2.1 0, 9, .inl (upd (fun j => nI (a j)) n (nI 6))))) r (.inr (5, [.ref (r + 1), .ref (r + 2), .ref (r + 3), .int (nI n), .ref p, .ref (p + 2), .int (nI (i + 1)), .int (nI k), .int (nI w), .int (nI 0), .int (nI h)]))) r (r + 4) := (fun q hq => ((zU_ne (by omega)).trans (zU_ne (by omega))))
          have Gend : zrd E (zU (zU M (r + 2) (.inl (E.2.1 0, 9, .inl (upd (fun j => nI (a j)) n (nI 6))))) r (.inr (5, [.ref (r + 1), .ref (r + 2), .ref (r + 3), .int (nI n), .ref p, .ref (p + 2), .int (nI (i + 1)), .int (nI k), .int (nI w), .int (nI 0), .int (nI h)]))) r p cs (o, (updN a n 6), b, n, (i + 1), k, w, 0, h, ps, t) := ⟨zU_eq, (zU_ne (by omega)).trans ((zU_ne (by omega)).trans h1), (by rw [← nI_upd]; exact (zU_ne (by omega)).trans zU_eq), (zU_ne (by omega)).trans ((zU_ne (by omega)).trans h3), zpg_oR hoGend hg (by omega), zln_oR hoGend hz (by omega), hpr, bo, (updN_b ba (by first | omega | decide)), bb, by omega, by omega, by omega, by omega, by omega⟩
          have eend : r_bef cs c (o, a, b, n, i, k, w, y, h, ps, t) = (o, (updN a n 6), b, n, (i + 1), k, w, 0, h, ps, t) := by
            simp only [r_bef]; rw [if_pos (show y = 1 ∧ (c = 43 ∨ c = 45) by omega), if_pos (show c = 45 by omega)]
          exact z_vret C ⟨rfl, rfl, (zoutR_tr zoutR_rf (zoutR_w (show zoutR M (zU (zU M (r + 2) (.inl (E.2.1 0, 9, .inl (upd (fun j => nI (a j)) n (nI 6))))) r (.inr (5, [.ref (r + 1), .ref (r + 2), .ref (r + 3), .int (nI n), .ref p, .ref (p + 2), .int (nI (i + 1)), .int (nI k), .int (nI w), .int (nI 0), .int (nI h)]))) r (r + 4) from (fun q hq => ((zU_ne (by omega)).trans (zU_ne (by omega))))) (by omega) (by omega))), by rw [eend]; exact Gend⟩ d_R_readBeforeAtom_196
set_option maxHeartbeats 4000000 in
/-- readAfterAtom -/
theorem r_readAfterAtom (E : zE) (l : Launch) (sz : Nat) (M : zM) {r p : Nat} {cs : List Nat} {o a b : Nat → Nat} {n i k w y h : Nat} {ps : List (Nat × Int)} {t : Int32} (H : zrd E M r p cs (o, a, b, n, i, k, w, y, h, ps, t)) (c : Nat) (hc : c < 128) (hi : i ≤ 90) : zMet E l y_R_readAfterAtom c_R_readAfterAtom 2 none { frames := 4, cells := 0, slots := 0, locals := 83 } 0 0 [.ref r, .int (nI c)] sz M (fun v s M' => none = v ∧ sz = s ∧ zoutR M M' (p + 2) (r + 4) ∧ zrd E M' r p cs (r_aft cs c (o, a, b, n, i, k, w, y, h, ps, t))) := by
  obtain ⟨h0, h1, h2, h3, hg, hz, hpr, bo, ba, bb, bn, bk, bw, b_y, bh⟩ := id H
  have bon := bo n
  refine zMet.ofZ (by decide) (Nat.le_of_ble_eq_true rfl) ?_
  intro X hl hini C
  have k223 : ¬ (c = 94 ∧ h = 1) → ¬ (c = 42 ∨ c = 47) → ¬ (c = 43 ∨ c = 45) → ¬ (c = 44 ∧ 0 < n ∧ o n = 115) → ¬ (c = 41 ∧ 0 < n ∧ ¬ o n = 115) → Z X E 2 (zQ X E 0 0 (fun v s M' => none = v ∧ sz = s ∧ zoutR M M' (p + 2) (r + 4) ∧ zrd E M' r p cs (r_aft cs c (o, a, b, n, i, k, w, y, h, ps, t)))) 0 0 sz M 223 [(0, .ref r), (1, .int (nI c))] [] := by
    intro q1 q2 q3 q4 q5
    refine z_aload_n C d_R_readAfterAtom_223 rfl rfl ?_
    refine z_iconst (v := nI 1) C d_R_readAfterAtom_224 (by decide) ?_
    refine z_put C in_R ty_R tok_R nm_R h0 rfl 7 (by decide) fl_R_39 rfl rfl rfl (rfl) (rfl) (Nat.le_of_ble_eq_true rfl) d_R_readAfterAtom_225 ?_
    show Z _ _ _ _ _ _ _ (zU M r (.inr (5, [.ref (r + 1), .ref (r + 2), .ref (r + 3), .int (nI n), .ref p, .ref (p + 2), .int (nI i), .int (nI 1), .int (nI w), .int (nI y), .int (nI h)]))) _ _ _
    have hoGend : zoutR M (zU M r (.inr (5, [.ref (r + 1), .ref (r + 2), .ref (r + 3), .int (nI n), .ref p, .ref (p + 2), .int (nI i), .int (nI 1), .int (nI w), .int (nI y), .int (nI h)]))) r (r + 4) := (fun q hq => (zU_ne (by omega)))
    have Gend : zrd E (zU M r (.inr (5, [.ref (r + 1), .ref (r + 2), .ref (r + 3), .int (nI n), .ref p, .ref (p + 2), .int (nI i), .int (nI 1), .int (nI w), .int (nI y), .int (nI h)]))) r p cs (o, a, b, n, i, 1, w, y, h, ps, t) := ⟨zU_eq, (zU_ne (by omega)).trans h1, (zU_ne (by omega)).trans h2, (zU_ne (by omega)).trans h3, zpg_oR hoGend hg (by omega), zln_oR hoGend hz (by omega), hpr, bo, ba, bb, by omega, by omega, by omega, by omega, by omega⟩
    have eend : r_aft cs c (o, a, b, n, i, k, w, y, h, ps, t) = (o, a, b, n, i, 1, w, y, h, ps, t) := by
      simp only [r_aft]; rw [if_neg (show ¬ (c = 94 ∧ h = 1) by omega), if_neg (show ¬ (c = 42 ∨ c = 47) by omega), if_neg (show ¬ (c = 43 ∨ c = 45) by omega), if_neg (show ¬ (c = 44 ∧ 0 < n ∧ o n = 115) by omega), if_neg (show ¬ (c = 41 ∧ 0 < n ∧ ¬ o n = 115) by omega)]
    exact z_vret C ⟨rfl, rfl, (zoutR_tr zoutR_rf (zoutR_w (show zoutR M (zU M r (.inr (5, [.ref (r + 1), .ref (r + 2), .ref (r + 3), .int (nI n), .ref p, .ref (p + 2), .int (nI i), .int (nI 1), .int (nI w), .int (nI y), .int (nI h)]))) r (r + 4) from (fun q hq => (zU_ne (by omega)))) (by omega) (by omega))), by rw [eend]; exact Gend⟩ d_R_readAfterAtom_228
  have k179 : ¬ (c = 94 ∧ h = 1) → ¬ (c = 42 ∨ c = 47) → ¬ (c = 43 ∨ c = 45) → ¬ (c = 44 ∧ 0 < n ∧ o n = 115) → Z X E 2 (zQ X E 0 0 (fun v s M' => none = v ∧ sz = s ∧ zoutR M M' (p + 2) (r + 4) ∧ zrd E M' r p cs (r_aft cs c (o, a, b, n, i, k, w, y, h, ps, t)))) 0 0 sz M 179 [(0, .ref r), (1, .int (nI c))] [] := by
    intro q1 q2 q3 q4
    refine z_iload_n C d_R_readAfterAtom_179 rfl rfl ?_
    refine z_bipush (v := nI 41) C d_R_readAfterAtom_180 (by decide) ?_
    refine z_icmp_ne (tgt := 223) C d_R_readAfterAtom_182 (by decide) (fun c_182 => ?_) (fun c_182 => ?_)
    · have c_182 : ¬ c = 41 := fun q => c_182 (congrArg nI q)
      exact k223 q1 q2 q3 q4 (by omega)
    · have c_182 : c = 41 := (nI_eq (a := c) (b := 41) (by omega) (by omega)).mp c_182
      refine z_aload_n C d_R_readAfterAtom_185 rfl rfl ?_
      refine z_get C in_R h0 rfl 3 (by decide) fl_R_43 rfl rfl d_R_readAfterAtom_186 ?_
      refine z_if_le (tgt := 223) C d_R_readAfterAtom_189 (by decide) (fun c_189 => ?_) (fun c_189 => ?_)
      · have c_189 : n ≤ 0 := (nI_leI (a := n) (b := 0) (by omega) (by omega)).mp c_189
        exact k223 q1 q2 q3 q4 (by omega)
      · have c_189 : 0 < n := Nat.not_le.mp (fun q => c_189 ((nI_leI (a := n) (b := 0) (by omega) (by omega)).mpr q))
        refine z_aload_n C d_R_readAfterAtom_192 rfl rfl ?_
        refine z_get C in_R h0 rfl 0 (by decide) fl_R_9 rfl rfl d_R_readAfterAtom_193 ?_
        refine z_aload_n C d_R_readAfterAtom_196 rfl rfl ?_
        refine z_get C in_R h0 rfl 3 (by decide) fl_R_43 rfl rfl d_R_readAfterAtom_197 ?_
        refine z_cald C h1 1 rfl n (rfl) (by omega) (by omega) d_R_readAfterAtom_200 ?_
        refine z_top (y := nI (o n)) rfl ?_
        refine z_bipush (v := nI 115) C d_R_readAfterAtom_201 (by decide) ?_
        refine z_icmp_eq (tgt := 223) C d_R_readAfterAtom_203 (by decide) (fun c_203 => ?_) (fun c_203 => ?_)
        · have c_203 : (o n) = 115 := (nI_eq (a := (o n)) (b := 115) (by omega) (by omega)).mp c_203
          exact k223 q1 q2 q3 q4 (by omega)
        · have c_203 : ¬ (o n) = 115 := fun q => c_203 (congrArg nI q)
          refine z_aload_n C d_R_readAfterAtom_206 rfl rfl ?_
          refine z_dup C d_R_readAfterAtom_207 rfl ?_
          refine z_get C in_R h0 rfl 6 (by decide) fl_R_35 rfl rfl d_R_readAfterAtom_208 ?_
          refine z_iconst (v := nI 1) C d_R_readAfterAtom_211 (by decide) ?_
          refine z_iadd C d_R_readAfterAtom_212 ?_
          refine z_top (y := nI (i + 1)) (nI_add _ _) ?_
          refine z_put C in_R ty_R tok_R nm_R h0 rfl 6 (by decide) fl_R_35 rfl rfl rfl (rfl) (rfl) (Nat.le_of_ble_eq_true rfl) d_R_readAfterAtom_213 ?_
          show Z _ _ _ _ _ _ _ (zU M r (.inr (5, [.ref (r + 1), .ref (r + 2), .ref (r + 3), .int (nI n), .ref p, .ref (p + 2), .int (nI (i + 1)), .int (nI k), .int (nI w), .int (nI y), .int (nI h)]))) _ _ _
          refine z_aload_n C d_R_readAfterAtom_216 rfl rfl ?_
          have hoG_217 : zoutR M (zU M r (.inr (5, [.ref (r + 1), .ref (r + 2), .ref (r + 3), .int (nI n), .ref p, .ref (p + 2), .int (nI (i + 1)), .int (nI k), .int (nI w), .int (nI y), .int (nI h)]))) r (r + 4) := (fun q hq => (zU_ne (by omega)))
          have G_217 : zrd E (zU M r (.inr (5, [.ref (r + 1), .ref (r + 2), .ref (r + 3), .int (nI n), .ref p, .ref (p + 2), .int (nI (i + 1)), .int (nI k), .int (nI w), .int (nI y), .int (nI h)]))) r p cs (o, a, b, n, (i + 1), k, w, y, h, ps, t) := ⟨zU_eq, (zU_ne (by omega)).trans h1, (zU_ne (by omega)).trans h2, (zU_ne (by omega)).trans h3, zpg_oR hoG_217 hg (by omega), zln_oR hoG_217 hz (by omega), hpr, bo, ba, bb, by omega, by omega, by omega, by omega, by omega⟩
          refine z_callV (rest := []) (n := 0) (As := []) C (r_closeOpening E X.2.1 sz _ G_217 (by omega)) ⟨z_cb C k_R_closeOpening ml_R_111 ii_R rfl rfl (by decide +kernel) ⟨by decide, by decide⟩, C.2.2.2.2.1 _ im_R_closeOpening, C.2.2.2.2.1 _ se_R_closeOpening⟩ G_217.1 rfl rfl rfl (Nat.le_of_ble_eq_true rfl) d_R_readAfterAtom_217 ⟨by decide, by decide⟩ ?_
          intro v_217 s_217 M_217 hp_217
          obtain ⟨rfl, rfl, hfr_217, H_217⟩ := hp_217
          have eend : r_aft cs c (o, a, b, n, i, k, w, y, h, ps, t) = r_cl (o, a, b, n, (i + 1), k, w, y, h, ps, t) := by simp only [r_aft]; rw [if_neg (show ¬ (c = 94 ∧ h = 1) by omega), if_neg (show ¬ (c = 42 ∨ c = 47) by omega), if_neg (show ¬ (c = 43 ∨ c = 45) by omega), if_neg (show ¬ (c = 44 ∧ 0 < n ∧ o n = 115) by omega), if_pos (show c = 41 ∧ 0 < n ∧ ¬ o n = 115 by omega)]
          show Z _ _ _ _ _ _ _ _ 220 _ []
          refine z_goto (tgt := 228) C d_R_readAfterAtom_220 (by decide) ?_
          exact z_vret C ⟨rfl, rfl, zoutR_tr (zoutR_tr zoutR_rf (zoutR_w (show zoutR M (zU M r (.inr (5, [.ref (r + 1), .ref (r + 2), .ref (r + 3), .int (nI n), .ref p, .ref (p + 2), .int (nI (i + 1)), .int (nI k), .int (nI w), .int (nI y), .int (nI h)]))) r (r + 4) from (fun q hq => (zU_ne (by omega)))) (by omega) (by omega))) hfr_217, by rw [eend]; exact H_217⟩ d_R_readAfterAtom_228
  have k120 : ¬ (c = 94 ∧ h = 1) → ¬ (c = 42 ∨ c = 47) → ¬ (c = 43 ∨ c = 45) → Z X E 2 (zQ X E 0 0 (fun v s M' => none = v ∧ sz = s ∧ zoutR M M' (p + 2) (r + 4) ∧ zrd E M' r p cs (r_aft cs c (o, a, b, n, i, k, w, y, h, ps, t)))) 0 0 sz M 120 [(0, .ref r), (1, .int (nI c))] [] := by
    intro q1 q2 q3
    refine z_iload_n C d_R_readAfterAtom_120 rfl rfl ?_
    refine z_bipush (v := nI 44) C d_R_readAfterAtom_121 (by decide) ?_
    refine z_icmp_ne (tgt := 179) C d_R_readAfterAtom_123 (by decide) (fun c_123 => ?_) (fun c_123 => ?_)
    · have c_123 : ¬ c = 44 := fun q => c_123 (congrArg nI q)
      exact k179 q1 q2 q3 (by omega)
    · have c_123 : c = 44 := (nI_eq (a := c) (b := 44) (by omega) (by omega)).mp c_123
      refine z_aload_n C d_R_readAfterAtom_126 rfl rfl ?_
      refine z_get C in_R h0 rfl 3 (by decide) fl_R_43 rfl rfl d_R_readAfterAtom_127 ?_
      refine z_if_le (tgt := 179) C d_R_readAfterAtom_130 (by decide) (fun c_130 => ?_) (fun c_130 => ?_)
      · have c_130 : n ≤ 0 := (nI_leI (a := n) (b := 0) (by omega) (by omega)).mp c_130
        exact k179 q1 q2 q3 (by omega)
      · have c_130 : 0 < n := Nat.not_le.mp (fun q => c_130 ((nI_leI (a := n) (b := 0) (by omega) (by omega)).mpr q))
        refine z_aload_n C d_R_readAfterAtom_133 rfl rfl ?_
        refine z_get C in_R h0 rfl 0 (by decide) fl_R_9 rfl rfl d_R_readAfterAtom_134 ?_
        refine z_aload_n C d_R_readAfterAtom_137 rfl rfl ?_
        refine z_get C in_R h0 rfl 3 (by decide) fl_R_43 rfl rfl d_R_readAfterAtom_138 ?_
        refine z_cald C h1 1 rfl n (rfl) (by omega) (by omega) d_R_readAfterAtom_141 ?_
        refine z_top (y := nI (o n)) rfl ?_
        refine z_bipush (v := nI 115) C d_R_readAfterAtom_142 (by decide) ?_
        refine z_icmp_ne (tgt := 179) C d_R_readAfterAtom_144 (by decide) (fun c_144 => ?_) (fun c_144 => ?_)
        · have c_144 : ¬ (o n) = 115 := fun q => c_144 (congrArg nI q)
          exact k179 q1 q2 q3 (by omega)
        · have c_144 : (o n) = 115 := (nI_eq (a := (o n)) (b := 115) (by omega) (by omega)).mp c_144
          refine z_aload_n C d_R_readAfterAtom_147 rfl rfl ?_
          refine z_dup C d_R_readAfterAtom_148 rfl ?_
          refine z_get C in_R h0 rfl 6 (by decide) fl_R_35 rfl rfl d_R_readAfterAtom_149 ?_
          refine z_iconst (v := nI 1) C d_R_readAfterAtom_152 (by decide) ?_
          refine z_iadd C d_R_readAfterAtom_153 ?_
          refine z_top (y := nI (i + 1)) (nI_add _ _) ?_
          refine z_put C in_R ty_R tok_R nm_R h0 rfl 6 (by decide) fl_R_35 rfl rfl rfl (rfl) (rfl) (Nat.le_of_ble_eq_true rfl) d_R_readAfterAtom_154 ?_
          show Z _ _ _ _ _ _ _ (zU M r (.inr (5, [.ref (r + 1), .ref (r + 2), .ref (r + 3), .int (nI n), .ref p, .ref (p + 2), .int (nI (i + 1)), .int (nI k), .int (nI w), .int (nI y), .int (nI h)]))) _ _ _
          refine z_aload_n C d_R_readAfterAtom_157 rfl rfl ?_
          have hoG_158 : zoutR M (zU M r (.inr (5, [.ref (r + 1), .ref (r + 2), .ref (r + 3), .int (nI n), .ref p, .ref (p + 2), .int (nI (i + 1)), .int (nI k), .int (nI w), .int (nI y), .int (nI h)]))) r (r + 4) := (fun q hq => (zU_ne (by omega)))
          have G_158 : zrd E (zU M r (.inr (5, [.ref (r + 1), .ref (r + 2), .ref (r + 3), .int (nI n), .ref p, .ref (p + 2), .int (nI (i + 1)), .int (nI k), .int (nI w), .int (nI y), .int (nI h)]))) r p cs (o, a, b, n, (i + 1), k, w, y, h, ps, t) := ⟨zU_eq, (zU_ne (by omega)).trans h1, (zU_ne (by omega)).trans h2, (zU_ne (by omega)).trans h3, zpg_oR hoG_158 hg (by omega), zln_oR hoG_158 hz (by omega), hpr, bo, ba, bb, by omega, by omega, by omega, by omega, by omega⟩
          refine z_callV (rest := []) (n := 0) (As := []) C (r_finishTerm E X.2.1 sz _ G_158) ⟨z_cb C k_R_finishTerm ml_R_71 ii_R rfl rfl (by decide +kernel) ⟨by decide, by decide⟩, C.2.2.2.2.1 _ im_R_finishTerm, C.2.2.2.2.1 _ se_R_finishTerm⟩ G_158.1 rfl rfl rfl (Nat.le_of_ble_eq_true rfl) d_R_readAfterAtom_158 ⟨by decide, by decide⟩ ?_
          intro v_158 s_158 M_158 hp_158
          obtain ⟨rfl, rfl, hfr_158, af, bf, pf, ef, H_158⟩ := hp_158
          obtain ⟨h0_158, h1_158, h2_158, h3_158, hg_158, hz_158, hpr_158, bo_158, ba_158, bb_158, bn_158, bk_158, bw_158, b_y_158, bh_158⟩ := id H_158
          show Z _ _ _ _ _ _ _ _ 161 _ []
          refine z_aload_n C d_R_readAfterAtom_161 rfl rfl ?_
          refine z_get C in_R h0_158 rfl 0 (by decide) fl_R_9 rfl rfl d_R_readAfterAtom_162 ?_
          refine z_aload_n C d_R_readAfterAtom_165 rfl rfl ?_
          refine z_get C in_R h0_158 rfl 3 (by decide) fl_R_43 rfl rfl d_R_readAfterAtom_166 ?_
          refine z_bipush (v := nI 44) C d_R_readAfterAtom_169 (by decide) ?_
          refine z_cast C h1_158 1 rfl n (rfl) (by omega) (by omega) (by have := (pk_charN (q := 44) (by omega)).1; unfold vp_nar; rw [this]) d_R_readAfterAtom_171 ?_
          refine z_aload_n C d_R_readAfterAtom_172 rfl rfl ?_
          have hoG_173 : zoutR M_158 (zU M_158 (r + 1) (.inl (E.2.1 1, 9, .inl (upd (fun j => nI (o j)) n (nI 44))))) r (r + 4) := (fun q hq => (zU_ne (by omega)))
          have G_173 : zrd E (zU M_158 (r + 1) (.inl (E.2.1 1, 9, .inl (upd (fun j => nI (o j)) n (nI 44))))) r p cs ((updN o n 44), af, bf, n, (i + 1), k, w, y, h, pf, t) := ⟨(zU_ne (by omega)).trans h0_158, (by rw [← nI_upd]; exact zU_eq), (zU_ne (by omega)).trans h2_158, (zU_ne (by omega)).trans h3_158, zpg_oR hoG_173 hg_158 (by omega), zln_oR hoG_173 hz_158 (by omega), hpr_158, (updN_b bo_158 (by first | omega | decide)), ba_158, bb_158, by omega, by omega, by omega, by omega, by omega⟩
          refine z_callV (rest := []) (n := 0) (As := []) C (r_startSum E X.2.1 sz _ G_173) ⟨z_cb C k_R_startSum ml_R_46 ii_R rfl rfl (by decide +kernel) ⟨by decide, by decide⟩, C.2.2.2.2.1 _ im_R_startSum, C.2.2.2.2.1 _ se_R_startSum⟩ G_173.1 rfl rfl rfl (Nat.le_of_ble_eq_true rfl) d_R_readAfterAtom_173 ⟨by decide, by decide⟩ ?_
          intro v_173 s_173 M_173 hp_173
          obtain ⟨rfl, rfl, hfr_173, H_173⟩ := hp_173
          have eend : r_aft cs c (o, a, b, n, i, k, w, y, h, ps, t) = r_sum ((updN o n 44), af, bf, n, (i + 1), k, w, y, h, pf, t) := by simp only [r_aft]; rw [if_neg (show ¬ (c = 94 ∧ h = 1) by omega), if_neg (show ¬ (c = 42 ∨ c = 47) by omega), if_neg (show ¬ (c = 43 ∨ c = 45) by omega), if_pos (show c = 44 ∧ 0 < n ∧ o n = 115 by omega), ef]; rfl
          show Z _ _ _ _ _ _ _ _ 176 _ []
          refine z_goto (tgt := 228) C d_R_readAfterAtom_176 (by decide) ?_
          exact z_vret C ⟨rfl, rfl, zoutR_tr (zoutR_tr (zoutR_tr (zoutR_tr zoutR_rf (zoutR_w (show zoutR M (zU M r (.inr (5, [.ref (r + 1), .ref (r + 2), .ref (r + 3), .int (nI n), .ref p, .ref (p + 2), .int (nI (i + 1)), .int (nI k), .int (nI w), .int (nI y), .int (nI h)]))) r (r + 4) from (fun q hq => (zU_ne (by omega)))) (by omega) (by omega))) hfr_158) (zoutR_w (show zoutR M_158 (zU M_158 (r + 1) (.inl (E.2.1 1, 9, .inl (upd (fun j => nI (o j)) n (nI 44))))) r (r + 4) from (fun q hq => (zU_ne (by omega)))) (by omega) (by omega))) hfr_173, by rw [eend]; exact H_173⟩ d_R_readAfterAtom_228
  have k75 : ¬ (c = 94 ∧ h = 1) → ¬ (c = 42 ∨ c = 47) → Z X E 2 (zQ X E 0 0 (fun v s M' => none = v ∧ sz = s ∧ zoutR M M' (p + 2) (r + 4) ∧ zrd E M' r p cs (r_aft cs c (o, a, b, n, i, k, w, y, h, ps, t)))) 0 0 sz M 75 [(0, .ref r), (1, .int (nI c))] [] := by
    intro q1 q2
    refine z_iload_n C d_R_readAfterAtom_75 rfl rfl ?_
    refine z_bipush (v := nI 43) C d_R_readAfterAtom_76 (by decide) ?_
    refine z_icmp_eq (tgt := 87) C d_R_readAfterAtom_78 (by decide) (fun c_78 => ?_) (fun c_78 => ?_)
    · have c_78 : c = 43 := (nI_eq (a := c) (b := 43) (by omega) (by omega)).mp c_78
      refine z_aload_n C d_R_readAfterAtom_87 rfl rfl ?_
      have hoG_88 : zoutR M M r (r + 4) := zoutR_rf
      have G_88 : zrd E M r p cs (o, a, b, n, i, k, w, y, h, ps, t) := ⟨h0, h1, h2, h3, zpg_oR hoG_88 hg (by omega), zln_oR hoG_88 hz (by omega), hpr, bo, ba, bb, by omega, by omega, by omega, by omega, by omega⟩
      refine z_callV (rest := []) (n := 0) (As := []) C (r_finishTerm E X.2.1 sz _ G_88) ⟨z_cb C k_R_finishTerm ml_R_71 ii_R rfl rfl (by decide +kernel) ⟨by decide, by decide⟩, C.2.2.2.2.1 _ im_R_finishTerm, C.2.2.2.2.1 _ se_R_finishTerm⟩ G_88.1 rfl rfl rfl (Nat.le_of_ble_eq_true rfl) d_R_readAfterAtom_88 ⟨by decide, by decide⟩ ?_
      intro v_88 s_88 M_88 hp_88
      obtain ⟨rfl, rfl, hfr_88, af, bf, pf, ef, H_88⟩ := hp_88
      obtain ⟨h0_88, h1_88, h2_88, h3_88, hg_88, hz_88, hpr_88, bo_88, ba_88, bb_88, bn_88, bk_88, bw_88, b_y_88, bh_88⟩ := id H_88
      show Z _ _ _ _ _ _ _ _ 91 _ []
      refine z_aload_n C d_R_readAfterAtom_91 rfl rfl ?_
      refine z_get C in_R h0_88 rfl 1 (by decide) fl_R_15 rfl rfl d_R_readAfterAtom_92 ?_
      refine z_aload_n C d_R_readAfterAtom_95 rfl rfl ?_
      refine z_get C in_R h0_88 rfl 3 (by decide) fl_R_43 rfl rfl d_R_readAfterAtom_96 ?_
      refine z_iload_n C d_R_readAfterAtom_99 rfl rfl ?_
      refine z_bipush (v := nI 43) C d_R_readAfterAtom_100 (by decide) ?_
      refine z_icmp_ne (tgt := 110) C d_R_readAfterAtom_102 (by decide) (fun c_102 => ?_) (fun c_102 => ?_)
      · have c_102 : ¬ c = 43 := fun q => c_102 (congrArg nI q)
        refine z_bipush (v := nI 9) C d_R_readAfterAtom_110 (by decide) ?_
        refine z_iast C h2_88 0 rfl n (rfl) (by omega) (by omega) d_R_readAfterAtom_112 ?_
        refine z_aload_n C d_R_readAfterAtom_113 rfl rfl ?_
        have hoG_114 : zoutR M_88 (zU M_88 (r + 2) (.inl (E.2.1 0, 9, .inl (upd (fun j => nI (af j)) n (nI 9))))) r (r + 4) := (fun q hq => (zU_ne (by omega)))
        have G_114 : zrd E (zU M_88 (r + 2) (.inl (E.2.1 0, 9, .inl (upd (fun j => nI (af j)) n (nI 9))))) r p cs (o, (updN af n 9), bf, n, i, k, w, y, h, pf, t) := ⟨(zU_ne (by omega)).trans h0_88, (zU_ne (by omega)).trans h1_88, (by rw [← nI_upd]; exact zU_eq), (zU_ne (by omega)).trans h3_88, zpg_oR hoG_114 hg_88 (by omega), zln_oR hoG_114 hz_88 (by omega), hpr_88, bo_88, (updN_b ba_88 (by first | omega | decide)), bb_88, by omega, by omega, by omega, by omega, by omega⟩
        refine z_callV (rest := []) (n := 0) (As := []) C (r_startAtom E X.2.1 sz _ G_114) ⟨z_cb C k_R_startAtom ml_R_108 ii_R rfl rfl (by decide +kernel) ⟨by decide, by decide⟩, C.2.2.2.2.1 _ im_R_startAtom, C.2.2.2.2.1 _ se_R_startAtom⟩ G_114.1 rfl rfl rfl (Nat.le_of_ble_eq_true rfl) d_R_readAfterAtom_114 ⟨by decide, by decide⟩ ?_
        intro v_114 s_114 M_114 hp_114
        obtain ⟨rfl, rfl, hfr_114, H_114⟩ := hp_114
        have eend : r_aft cs c (o, a, b, n, i, k, w, y, h, ps, t) = r_atm (o, (updN af n 9), bf, n, i, k, w, y, h, pf, t) := by simp only [r_aft]; rw [if_neg (show ¬ (c = 94 ∧ h = 1) by omega), if_neg (show ¬ (c = 42 ∨ c = 47) by omega), if_pos (show c = 43 ∨ c = 45 by omega), ef, if_neg (show ¬ c = 43 by omega)]; rfl
        show Z _ _ _ _ _ _ _ _ 117 _ []
        refine z_goto (tgt := 228) C d_R_readAfterAtom_117 (by decide) ?_
        exact z_vret C ⟨rfl, rfl, zoutR_tr (zoutR_tr (zoutR_tr (zoutR_tr zoutR_rf (zoutR_w (show zoutR M M r (r + 4) from zoutR_rf) (by omega) (by omega))) hfr_88) (zoutR_w (show zoutR M_88 (zU M_88 (r + 2) (.inl (E.2.1 0, 9, .inl (upd (fun j => nI (af j)) n (nI 9))))) r (r + 4) from (fun q hq => (zU_ne (by omega)))) (by omega) (by omega))) hfr_114, by rw [eend]; exact H_114⟩ d_R_readAfterAtom_228
      · have c_102 : c = 43 := (nI_eq (a := c) (b := 43) (by omega) (by omega)).mp c_102
        refine z_bipush (v := nI 8) C d_R_readAfterAtom_105 (by decide) ?_
        refine z_goto (tgt := 112) C d_R_readAfterAtom_107 (by decide) ?_
        refine z_iast C h2_88 0 rfl n (rfl) (by omega) (by omega) d_R_readAfterAtom_112 ?_
        refine z_aload_n C d_R_readAfterAtom_113 rfl rfl ?_
        have hoG_114 : zoutR M_88 (zU M_88 (r + 2) (.inl (E.2.1 0, 9, .inl (upd (fun j => nI (af j)) n (nI 8))))) r (r + 4) := (fun q hq => (zU_ne (by omega)))
        have G_114 : zrd E (zU M_88 (r + 2) (.inl (E.2.1 0, 9, .inl (upd (fun j => nI (af j)) n (nI 8))))) r p cs (o, (updN af n 8), bf, n, i, k, w, y, h, pf, t) := ⟨(zU_ne (by omega)).trans h0_88, (zU_ne (by omega)).trans h1_88, (by rw [← nI_upd]; exact zU_eq), (zU_ne (by omega)).trans h3_88, zpg_oR hoG_114 hg_88 (by omega), zln_oR hoG_114 hz_88 (by omega), hpr_88, bo_88, (updN_b ba_88 (by first | omega | decide)), bb_88, by omega, by omega, by omega, by omega, by omega⟩
        refine z_callV (rest := []) (n := 0) (As := []) C (r_startAtom E X.2.1 sz _ G_114) ⟨z_cb C k_R_startAtom ml_R_108 ii_R rfl rfl (by decide +kernel) ⟨by decide, by decide⟩, C.2.2.2.2.1 _ im_R_startAtom, C.2.2.2.2.1 _ se_R_startAtom⟩ G_114.1 rfl rfl rfl (Nat.le_of_ble_eq_true rfl) d_R_readAfterAtom_114 ⟨by decide, by decide⟩ ?_
        intro v_114 s_114 M_114 hp_114
        obtain ⟨rfl, rfl, hfr_114, H_114⟩ := hp_114
        have eend : r_aft cs c (o, a, b, n, i, k, w, y, h, ps, t) = r_atm (o, (updN af n 8), bf, n, i, k, w, y, h, pf, t) := by simp only [r_aft]; rw [if_neg (show ¬ (c = 94 ∧ h = 1) by omega), if_neg (show ¬ (c = 42 ∨ c = 47) by omega), if_pos (show c = 43 ∨ c = 45 by omega), ef, if_pos (show c = 43 by omega)]; rfl
        show Z _ _ _ _ _ _ _ _ 117 _ []
        refine z_goto (tgt := 228) C d_R_readAfterAtom_117 (by decide) ?_
        exact z_vret C ⟨rfl, rfl, zoutR_tr (zoutR_tr (zoutR_tr (zoutR_tr zoutR_rf (zoutR_w (show zoutR M M r (r + 4) from zoutR_rf) (by omega) (by omega))) hfr_88) (zoutR_w (show zoutR M_88 (zU M_88 (r + 2) (.inl (E.2.1 0, 9, .inl (upd (fun j => nI (af j)) n (nI 8))))) r (r + 4) from (fun q hq => (zU_ne (by omega)))) (by omega) (by omega))) hfr_114, by rw [eend]; exact H_114⟩ d_R_readAfterAtom_228
    · have c_78 : ¬ c = 43 := fun q => c_78 (congrArg nI q)
      refine z_iload_n C d_R_readAfterAtom_81 rfl rfl ?_
      refine z_bipush (v := nI 45) C d_R_readAfterAtom_82 (by decide) ?_
      refine z_icmp_ne (tgt := 120) C d_R_readAfterAtom_84 (by decide) (fun c_84 => ?_) (fun c_84 => ?_)
      · have c_84 : ¬ c = 45 := fun q => c_84 (congrArg nI q)
        exact k120 q1 q2 (by omega)
      · have c_84 : c = 45 := (nI_eq (a := c) (b := 45) (by omega) (by omega)).mp c_84
        refine z_aload_n C d_R_readAfterAtom_87 rfl rfl ?_
        have hoG_88 : zoutR M M r (r + 4) := zoutR_rf
        have G_88 : zrd E M r p cs (o, a, b, n, i, k, w, y, h, ps, t) := ⟨h0, h1, h2, h3, zpg_oR hoG_88 hg (by omega), zln_oR hoG_88 hz (by omega), hpr, bo, ba, bb, by omega, by omega, by omega, by omega, by omega⟩
        refine z_callV (rest := []) (n := 0) (As := []) C (r_finishTerm E X.2.1 sz _ G_88) ⟨z_cb C k_R_finishTerm ml_R_71 ii_R rfl rfl (by decide +kernel) ⟨by decide, by decide⟩, C.2.2.2.2.1 _ im_R_finishTerm, C.2.2.2.2.1 _ se_R_finishTerm⟩ G_88.1 rfl rfl rfl (Nat.le_of_ble_eq_true rfl) d_R_readAfterAtom_88 ⟨by decide, by decide⟩ ?_
        intro v_88 s_88 M_88 hp_88
        obtain ⟨rfl, rfl, hfr_88, af, bf, pf, ef, H_88⟩ := hp_88
        obtain ⟨h0_88, h1_88, h2_88, h3_88, hg_88, hz_88, hpr_88, bo_88, ba_88, bb_88, bn_88, bk_88, bw_88, b_y_88, bh_88⟩ := id H_88
        show Z _ _ _ _ _ _ _ _ 91 _ []
        refine z_aload_n C d_R_readAfterAtom_91 rfl rfl ?_
        refine z_get C in_R h0_88 rfl 1 (by decide) fl_R_15 rfl rfl d_R_readAfterAtom_92 ?_
        refine z_aload_n C d_R_readAfterAtom_95 rfl rfl ?_
        refine z_get C in_R h0_88 rfl 3 (by decide) fl_R_43 rfl rfl d_R_readAfterAtom_96 ?_
        refine z_iload_n C d_R_readAfterAtom_99 rfl rfl ?_
        refine z_bipush (v := nI 43) C d_R_readAfterAtom_100 (by decide) ?_
        refine z_icmp_ne (tgt := 110) C d_R_readAfterAtom_102 (by decide) (fun c_102 => ?_) (fun c_102 => ?_)
        · have c_102 : ¬ c = 43 := fun q => c_102 (congrArg nI q)
          refine z_bipush (v := nI 9) C d_R_readAfterAtom_110 (by decide) ?_
          refine z_iast C h2_88 0 rfl n (rfl) (by omega) (by omega) d_R_readAfterAtom_112 ?_
          refine z_aload_n C d_R_readAfterAtom_113 rfl rfl ?_
          have hoG_114 : zoutR M_88 (zU M_88 (r + 2) (.inl (E.2.1 0, 9, .inl (upd (fun j => nI (af j)) n (nI 9))))) r (r + 4) := (fun q hq => (zU_ne (by omega)))
          have G_114 : zrd E (zU M_88 (r + 2) (.inl (E.2.1 0, 9, .inl (upd (fun j => nI (af j)) n (nI 9))))) r p cs (o, (updN af n 9), bf, n, i, k, w, y, h, pf, t) := ⟨(zU_ne (by omega)).trans h0_88, (zU_ne (by omega)).trans h1_88, (by rw [← nI_upd]; exact zU_eq), (zU_ne (by omega)).trans h3_88, zpg_oR hoG_114 hg_88 (by omega), zln_oR hoG_114 hz_88 (by omega), hpr_88, bo_88, (updN_b ba_88 (by first | omega | decide)), bb_88, by omega, by omega, by omega, by omega, by omega⟩
          refine z_callV (rest := []) (n := 0) (As := []) C (r_startAtom E X.2.1 sz _ G_114) ⟨z_cb C k_R_startAtom ml_R_108 ii_R rfl rfl (by decide +kernel) ⟨by decide, by decide⟩, C.2.2.2.2.1 _ im_R_startAtom, C.2.2.2.2.1 _ se_R_startAtom⟩ G_114.1 rfl rfl rfl (Nat.le_of_ble_eq_true rfl) d_R_readAfterAtom_114 ⟨by decide, by decide⟩ ?_
          intro v_114 s_114 M_114 hp_114
          obtain ⟨rfl, rfl, hfr_114, H_114⟩ := hp_114
          have eend : r_aft cs c (o, a, b, n, i, k, w, y, h, ps, t) = r_atm (o, (updN af n 9), bf, n, i, k, w, y, h, pf, t) := by simp only [r_aft]; rw [if_neg (show ¬ (c = 94 ∧ h = 1) by omega), if_neg (show ¬ (c = 42 ∨ c = 47) by omega), if_pos (show c = 43 ∨ c = 45 by omega), ef, if_neg (show ¬ c = 43 by omega)]; rfl
          show Z _ _ _ _ _ _ _ _ 117 _ []
          refine z_goto (tgt := 228) C d_R_readAfterAtom_117 (by decide) ?_
          exact z_vret C ⟨rfl, rfl, zoutR_tr (zoutR_tr (zoutR_tr (zoutR_tr zoutR_rf (zoutR_w (show zoutR M M r (r + 4) from zoutR_rf) (by omega) (by omega))) hfr_88) (zoutR_w (show zoutR M_88 (zU M_88 (r + 2) (.inl (E.2.1 0, 9, .inl (upd (fun j => nI (af j)) n (nI 9))))) r (r + 4) from (fun q hq => (zU_ne (by omega)))) (by omega) (by omega))) hfr_114, by rw [eend]; exact H_114⟩ d_R_readAfterAtom_228
        · have c_102 : c = 43 := (nI_eq (a := c) (b := 43) (by omega) (by omega)).mp c_102
          refine z_bipush (v := nI 8) C d_R_readAfterAtom_105 (by decide) ?_
          refine z_goto (tgt := 112) C d_R_readAfterAtom_107 (by decide) ?_
          refine z_iast C h2_88 0 rfl n (rfl) (by omega) (by omega) d_R_readAfterAtom_112 ?_
          refine z_aload_n C d_R_readAfterAtom_113 rfl rfl ?_
          have hoG_114 : zoutR M_88 (zU M_88 (r + 2) (.inl (E.2.1 0, 9, .inl (upd (fun j => nI (af j)) n (nI 8))))) r (r + 4) := (fun q hq => (zU_ne (by omega)))
          have G_114 : zrd E (zU M_88 (r + 2) (.inl (E.2.1 0, 9, .inl (upd (fun j => nI (af j)) n (nI 8))))) r p cs (o, (updN af n 8), bf, n, i, k, w, y, h, pf, t) := ⟨(zU_ne (by omega)).trans h0_88, (zU_ne (by omega)).trans h1_88, (by rw [← nI_upd]; exact zU_eq), (zU_ne (by omega)).trans h3_88, zpg_oR hoG_114 hg_88 (by omega), zln_oR hoG_114 hz_88 (by omega), hpr_88, bo_88, (updN_b ba_88 (by first | omega | decide)), bb_88, by omega, by omega, by omega, by omega, by omega⟩
          refine z_callV (rest := []) (n := 0) (As := []) C (r_startAtom E X.2.1 sz _ G_114) ⟨z_cb C k_R_startAtom ml_R_108 ii_R rfl rfl (by decide +kernel) ⟨by decide, by decide⟩, C.2.2.2.2.1 _ im_R_startAtom, C.2.2.2.2.1 _ se_R_startAtom⟩ G_114.1 rfl rfl rfl (Nat.le_of_ble_eq_true rfl) d_R_readAfterAtom_114 ⟨by decide, by decide⟩ ?_
          intro v_114 s_114 M_114 hp_114
          obtain ⟨rfl, rfl, hfr_114, H_114⟩ := hp_114
          have eend : r_aft cs c (o, a, b, n, i, k, w, y, h, ps, t) = r_atm (o, (updN af n 8), bf, n, i, k, w, y, h, pf, t) := by simp only [r_aft]; rw [if_neg (show ¬ (c = 94 ∧ h = 1) by omega), if_neg (show ¬ (c = 42 ∨ c = 47) by omega), if_pos (show c = 43 ∨ c = 45 by omega), ef, if_pos (show c = 43 by omega)]; rfl
          show Z _ _ _ _ _ _ _ _ 117 _ []
          refine z_goto (tgt := 228) C d_R_readAfterAtom_117 (by decide) ?_
          exact z_vret C ⟨rfl, rfl, zoutR_tr (zoutR_tr (zoutR_tr (zoutR_tr zoutR_rf (zoutR_w (show zoutR M M r (r + 4) from zoutR_rf) (by omega) (by omega))) hfr_88) (zoutR_w (show zoutR M_88 (zU M_88 (r + 2) (.inl (E.2.1 0, 9, .inl (upd (fun j => nI (af j)) n (nI 8))))) r (r + 4) from (fun q hq => (zU_ne (by omega)))) (by omega) (by omega))) hfr_114, by rw [eend]; exact H_114⟩ d_R_readAfterAtom_228
  have k30 : ¬ (c = 94 ∧ h = 1) → Z X E 2 (zQ X E 0 0 (fun v s M' => none = v ∧ sz = s ∧ zoutR M M' (p + 2) (r + 4) ∧ zrd E M' r p cs (r_aft cs c (o, a, b, n, i, k, w, y, h, ps, t)))) 0 0 sz M 30 [(0, .ref r), (1, .int (nI c))] [] := by
    intro q1
    refine z_iload_n C d_R_readAfterAtom_30 rfl rfl ?_
    refine z_bipush (v := nI 42) C d_R_readAfterAtom_31 (by decide) ?_
    refine z_icmp_eq (tgt := 42) C d_R_readAfterAtom_33 (by decide) (fun c_33 => ?_) (fun c_33 => ?_)
    · have c_33 : c = 42 := (nI_eq (a := c) (b := 42) (by omega) (by omega)).mp c_33
      refine z_aload_n C d_R_readAfterAtom_42 rfl rfl ?_
      have hoG_43 : zoutR M M r (r + 4) := zoutR_rf
      have G_43 : zrd E M r p cs (o, a, b, n, i, k, w, y, h, ps, t) := ⟨h0, h1, h2, h3, zpg_oR hoG_43 hg (by omega), zln_oR hoG_43 hz (by omega), hpr, bo, ba, bb, by omega, by omega, by omega, by omega, by omega⟩
      refine z_callV (rest := []) (n := 0) (As := []) C (r_finishPower E X.2.1 sz _ G_43) ⟨z_cb C k_R_finishPower ml_R_105 ii_R rfl rfl (by decide +kernel) ⟨by decide, by decide⟩, C.2.2.2.2.1 _ im_R_finishPower, C.2.2.2.2.1 _ se_R_finishPower⟩ G_43.1 rfl rfl rfl (Nat.le_of_ble_eq_true rfl) d_R_readAfterAtom_43 ⟨by decide, by decide⟩ ?_
      intro v_43 s_43 M_43 hp_43
      obtain ⟨rfl, rfl, hfr_43, bf, pf, ef, H_43⟩ := hp_43
      obtain ⟨h0_43, h1_43, h2_43, h3_43, hg_43, hz_43, hpr_43, bo_43, ba_43, bb_43, bn_43, bk_43, bw_43, b_y_43, bh_43⟩ := id H_43
      show Z _ _ _ _ _ _ _ _ 46 _ []
      refine z_aload_n C d_R_readAfterAtom_46 rfl rfl ?_
      refine z_get C in_R h0_43 rfl 2 (by decide) fl_R_19 rfl rfl d_R_readAfterAtom_47 ?_
      refine z_aload_n C d_R_readAfterAtom_50 rfl rfl ?_
      refine z_get C in_R h0_43 rfl 3 (by decide) fl_R_43 rfl rfl d_R_readAfterAtom_51 ?_
      refine z_iload_n C d_R_readAfterAtom_54 rfl rfl ?_
      refine z_bipush (v := nI 42) C d_R_readAfterAtom_55 (by decide) ?_
      refine z_icmp_ne (tgt := 65) C d_R_readAfterAtom_57 (by decide) (fun c_57 => ?_) (fun c_57 => ?_)
      · have c_57 : ¬ c = 42 := fun q => c_57 (congrArg nI q)
        refine z_bipush (v := nI 11) C d_R_readAfterAtom_65 (by decide) ?_
        refine z_iast C h3_43 0 rfl n (rfl) (by omega) (by omega) d_R_readAfterAtom_67 ?_
        refine z_aload_n C d_R_readAfterAtom_68 rfl rfl ?_
        have hoG_69 : zoutR M_43 (zU M_43 (r + 3) (.inl (E.2.1 0, 9, .inl (upd (fun j => nI (bf j)) n (nI 11))))) r (r + 4) := (fun q hq => (zU_ne (by omega)))
        have G_69 : zrd E (zU M_43 (r + 3) (.inl (E.2.1 0, 9, .inl (upd (fun j => nI (bf j)) n (nI 11))))) r p cs (o, a, (updN bf n 11), n, i, k, w, y, h, pf, t) := ⟨(zU_ne (by omega)).trans h0_43, (zU_ne (by omega)).trans h1_43, (zU_ne (by omega)).trans h2_43, (by rw [← nI_upd]; exact zU_eq), zpg_oR hoG_69 hg_43 (by omega), zln_oR hoG_69 hz_43 (by omega), hpr_43, bo_43, ba_43, (updN_b bb_43 (by first | omega | decide)), by omega, by omega, by omega, by omega, by omega⟩
        refine z_callV (rest := []) (n := 0) (As := []) C (r_startAtom E X.2.1 sz _ G_69) ⟨z_cb C k_R_startAtom ml_R_108 ii_R rfl rfl (by decide +kernel) ⟨by decide, by decide⟩, C.2.2.2.2.1 _ im_R_startAtom, C.2.2.2.2.1 _ se_R_startAtom⟩ G_69.1 rfl rfl rfl (Nat.le_of_ble_eq_true rfl) d_R_readAfterAtom_69 ⟨by decide, by decide⟩ ?_
        intro v_69 s_69 M_69 hp_69
        obtain ⟨rfl, rfl, hfr_69, H_69⟩ := hp_69
        have eend : r_aft cs c (o, a, b, n, i, k, w, y, h, ps, t) = r_atm (o, a, (updN bf n 11), n, i, k, w, y, h, pf, t) := by simp only [r_aft]; rw [if_neg (show ¬ (c = 94 ∧ h = 1) by omega), if_pos (show c = 42 ∨ c = 47 by omega), ef, if_neg (show ¬ c = 42 by omega)]; rfl
        show Z _ _ _ _ _ _ _ _ 72 _ []
        refine z_goto (tgt := 228) C d_R_readAfterAtom_72 (by decide) ?_
        exact z_vret C ⟨rfl, rfl, zoutR_tr (zoutR_tr (zoutR_tr (zoutR_tr zoutR_rf (zoutR_w (show zoutR M M r (r + 4) from zoutR_rf) (by omega) (by omega))) hfr_43) (zoutR_w (show zoutR M_43 (zU M_43 (r + 3) (.inl (E.2.1 0, 9, .inl (upd (fun j => nI (bf j)) n (nI 11))))) r (r + 4) from (fun q hq => (zU_ne (by omega)))) (by omega) (by omega))) hfr_69, by rw [eend]; exact H_69⟩ d_R_readAfterAtom_228
      · have c_57 : c = 42 := (nI_eq (a := c) (b := 42) (by omega) (by omega)).mp c_57
        refine z_bipush (v := nI 10) C d_R_readAfterAtom_60 (by decide) ?_
        refine z_goto (tgt := 67) C d_R_readAfterAtom_62 (by decide) ?_
        refine z_iast C h3_43 0 rfl n (rfl) (by omega) (by omega) d_R_readAfterAtom_67 ?_
        refine z_aload_n C d_R_readAfterAtom_68 rfl rfl ?_
        have hoG_69 : zoutR M_43 (zU M_43 (r + 3) (.inl (E.2.1 0, 9, .inl (upd (fun j => nI (bf j)) n (nI 10))))) r (r + 4) := (fun q hq => (zU_ne (by omega)))
        have G_69 : zrd E (zU M_43 (r + 3) (.inl (E.2.1 0, 9, .inl (upd (fun j => nI (bf j)) n (nI 10))))) r p cs (o, a, (updN bf n 10), n, i, k, w, y, h, pf, t) := ⟨(zU_ne (by omega)).trans h0_43, (zU_ne (by omega)).trans h1_43, (zU_ne (by omega)).trans h2_43, (by rw [← nI_upd]; exact zU_eq), zpg_oR hoG_69 hg_43 (by omega), zln_oR hoG_69 hz_43 (by omega), hpr_43, bo_43, ba_43, (updN_b bb_43 (by first | omega | decide)), by omega, by omega, by omega, by omega, by omega⟩
        refine z_callV (rest := []) (n := 0) (As := []) C (r_startAtom E X.2.1 sz _ G_69) ⟨z_cb C k_R_startAtom ml_R_108 ii_R rfl rfl (by decide +kernel) ⟨by decide, by decide⟩, C.2.2.2.2.1 _ im_R_startAtom, C.2.2.2.2.1 _ se_R_startAtom⟩ G_69.1 rfl rfl rfl (Nat.le_of_ble_eq_true rfl) d_R_readAfterAtom_69 ⟨by decide, by decide⟩ ?_
        intro v_69 s_69 M_69 hp_69
        obtain ⟨rfl, rfl, hfr_69, H_69⟩ := hp_69
        have eend : r_aft cs c (o, a, b, n, i, k, w, y, h, ps, t) = r_atm (o, a, (updN bf n 10), n, i, k, w, y, h, pf, t) := by simp only [r_aft]; rw [if_neg (show ¬ (c = 94 ∧ h = 1) by omega), if_pos (show c = 42 ∨ c = 47 by omega), ef, if_pos (show c = 42 by omega)]; rfl
        show Z _ _ _ _ _ _ _ _ 72 _ []
        refine z_goto (tgt := 228) C d_R_readAfterAtom_72 (by decide) ?_
        exact z_vret C ⟨rfl, rfl, zoutR_tr (zoutR_tr (zoutR_tr (zoutR_tr zoutR_rf (zoutR_w (show zoutR M M r (r + 4) from zoutR_rf) (by omega) (by omega))) hfr_43) (zoutR_w (show zoutR M_43 (zU M_43 (r + 3) (.inl (E.2.1 0, 9, .inl (upd (fun j => nI (bf j)) n (nI 10))))) r (r + 4) from (fun q hq => (zU_ne (by omega)))) (by omega) (by omega))) hfr_69, by rw [eend]; exact H_69⟩ d_R_readAfterAtom_228
    · have c_33 : ¬ c = 42 := fun q => c_33 (congrArg nI q)
      refine z_iload_n C d_R_readAfterAtom_36 rfl rfl ?_
      refine z_bipush (v := nI 47) C d_R_readAfterAtom_37 (by decide) ?_
      refine z_icmp_ne (tgt := 75) C d_R_readAfterAtom_39 (by decide) (fun c_39 => ?_) (fun c_39 => ?_)
      · have c_39 : ¬ c = 47 := fun q => c_39 (congrArg nI q)
        exact k75 q1 (by omega)
      · have c_39 : c = 47 := (nI_eq (a := c) (b := 47) (by omega) (by omega)).mp c_39
        refine z_aload_n C d_R_readAfterAtom_42 rfl rfl ?_
        have hoG_43 : zoutR M M r (r + 4) := zoutR_rf
        have G_43 : zrd E M r p cs (o, a, b, n, i, k, w, y, h, ps, t) := ⟨h0, h1, h2, h3, zpg_oR hoG_43 hg (by omega), zln_oR hoG_43 hz (by omega), hpr, bo, ba, bb, by omega, by omega, by omega, by omega, by omega⟩
        refine z_callV (rest := []) (n := 0) (As := []) C (r_finishPower E X.2.1 sz _ G_43) ⟨z_cb C k_R_finishPower ml_R_105 ii_R rfl rfl (by decide +kernel) ⟨by decide, by decide⟩, C.2.2.2.2.1 _ im_R_finishPower, C.2.2.2.2.1 _ se_R_finishPower⟩ G_43.1 rfl rfl rfl (Nat.le_of_ble_eq_true rfl) d_R_readAfterAtom_43 ⟨by decide, by decide⟩ ?_
        intro v_43 s_43 M_43 hp_43
        obtain ⟨rfl, rfl, hfr_43, bf, pf, ef, H_43⟩ := hp_43
        obtain ⟨h0_43, h1_43, h2_43, h3_43, hg_43, hz_43, hpr_43, bo_43, ba_43, bb_43, bn_43, bk_43, bw_43, b_y_43, bh_43⟩ := id H_43
        show Z _ _ _ _ _ _ _ _ 46 _ []
        refine z_aload_n C d_R_readAfterAtom_46 rfl rfl ?_
        refine z_get C in_R h0_43 rfl 2 (by decide) fl_R_19 rfl rfl d_R_readAfterAtom_47 ?_
        refine z_aload_n C d_R_readAfterAtom_50 rfl rfl ?_
        refine z_get C in_R h0_43 rfl 3 (by decide) fl_R_43 rfl rfl d_R_readAfterAtom_51 ?_
        refine z_iload_n C d_R_readAfterAtom_54 rfl rfl ?_
        refine z_bipush (v := nI 42) C d_R_readAfterAtom_55 (by decide) ?_
        refine z_icmp_ne (tgt := 65) C d_R_readAfterAtom_57 (by decide) (fun c_57 => ?_) (fun c_57 => ?_)
        · have c_57 : ¬ c = 42 := fun q => c_57 (congrArg nI q)
          refine z_bipush (v := nI 11) C d_R_readAfterAtom_65 (by decide) ?_
          refine z_iast C h3_43 0 rfl n (rfl) (by omega) (by omega) d_R_readAfterAtom_67 ?_
          refine z_aload_n C d_R_readAfterAtom_68 rfl rfl ?_
          have hoG_69 : zoutR M_43 (zU M_43 (r + 3) (.inl (E.2.1 0, 9, .inl (upd (fun j => nI (bf j)) n (nI 11))))) r (r + 4) := (fun q hq => (zU_ne (by omega)))
          have G_69 : zrd E (zU M_43 (r + 3) (.inl (E.2.1 0, 9, .inl (upd (fun j => nI (bf j)) n (nI 11))))) r p cs (o, a, (updN bf n 11), n, i, k, w, y, h, pf, t) := ⟨(zU_ne (by omega)).trans h0_43, (zU_ne (by omega)).trans h1_43, (zU_ne (by omega)).trans h2_43, (by rw [← nI_upd]; exact zU_eq), zpg_oR hoG_69 hg_43 (by omega), zln_oR hoG_69 hz_43 (by omega), hpr_43, bo_43, ba_43, (updN_b bb_43 (by first | omega | decide)), by omega, by omega, by omega, by omega, by omega⟩
          refine z_callV (rest := []) (n := 0) (As := []) C (r_startAtom E X.2.1 sz _ G_69) ⟨z_cb C k_R_startAtom ml_R_108 ii_R rfl rfl (by decide +kernel) ⟨by decide, by decide⟩, C.2.2.2.2.1 _ im_R_startAtom, C.2.2.2.2.1 _ se_R_startAtom⟩ G_69.1 rfl rfl rfl (Nat.le_of_ble_eq_true rfl) d_R_readAfterAtom_69 ⟨by decide, by decide⟩ ?_
          intro v_69 s_69 M_69 hp_69
          obtain ⟨rfl, rfl, hfr_69, H_69⟩ := hp_69
          have eend : r_aft cs c (o, a, b, n, i, k, w, y, h, ps, t) = r_atm (o, a, (updN bf n 11), n, i, k, w, y, h, pf, t) := by simp only [r_aft]; rw [if_neg (show ¬ (c = 94 ∧ h = 1) by omega), if_pos (show c = 42 ∨ c = 47 by omega), ef, if_neg (show ¬ c = 42 by omega)]; rfl
          show Z _ _ _ _ _ _ _ _ 72 _ []
          refine z_goto (tgt := 228) C d_R_readAfterAtom_72 (by decide) ?_
          exact z_vret C ⟨rfl, rfl, zoutR_tr (zoutR_tr (zoutR_tr (zoutR_tr zoutR_rf (zoutR_w (show zoutR M M r (r + 4) from zoutR_rf) (by omega) (by omega))) hfr_43) (zoutR_w (show zoutR M_43 (zU M_43 (r + 3) (.inl (E.2.1 0, 9, .inl (upd (fun j => nI (bf j)) n (nI 11))))) r (r + 4) from (fun q hq => (zU_ne (by omega)))) (by omega) (by omega))) hfr_69, by rw [eend]; exact H_69⟩ d_R_readAfterAtom_228
        · have c_57 : c = 42 := (nI_eq (a := c) (b := 42) (by omega) (by omega)).mp c_57
          refine z_bipush (v := nI 10) C d_R_readAfterAtom_60 (by decide) ?_
          refine z_goto (tgt := 67) C d_R_readAfterAtom_62 (by decide) ?_
          refine z_iast C h3_43 0 rfl n (rfl) (by omega) (by omega) d_R_readAfterAtom_67 ?_
          refine z_aload_n C d_R_readAfterAtom_68 rfl rfl ?_
          have hoG_69 : zoutR M_43 (zU M_43 (r + 3) (.inl (E.2.1 0, 9, .inl (upd (fun j => nI (bf j)) n (nI 10))))) r (r + 4) := (fun q hq => (zU_ne (by omega)))
          have G_69 : zrd E (zU M_43 (r + 3) (.inl (E.2.1 0, 9, .inl (upd (fun j => nI (bf j)) n (nI 10))))) r p cs (o, a, (updN bf n 10), n, i, k, w, y, h, pf, t) := ⟨(zU_ne (by omega)).trans h0_43, (zU_ne (by omega)).trans h1_43, (zU_ne (by omega)).trans h2_43, (by rw [← nI_upd]; exact zU_eq), zpg_oR hoG_69 hg_43 (by omega), zln_oR hoG_69 hz_43 (by omega), hpr_43, bo_43, ba_43, (updN_b bb_43 (by first | omega | decide)), by omega, by omega, by omega, by omega, by omega⟩
          refine z_callV (rest := []) (n := 0) (As := []) C (r_startAtom E X.2.1 sz _ G_69) ⟨z_cb C k_R_startAtom ml_R_108 ii_R rfl rfl (by decide +kernel) ⟨by decide, by decide⟩, C.2.2.2.2.1 _ im_R_startAtom, C.2.2.2.2.1 _ se_R_startAtom⟩ G_69.1 rfl rfl rfl (Nat.le_of_ble_eq_true rfl) d_R_readAfterAtom_69 ⟨by decide, by decide⟩ ?_
          intro v_69 s_69 M_69 hp_69
          obtain ⟨rfl, rfl, hfr_69, H_69⟩ := hp_69
          have eend : r_aft cs c (o, a, b, n, i, k, w, y, h, ps, t) = r_atm (o, a, (updN bf n 10), n, i, k, w, y, h, pf, t) := by simp only [r_aft]; rw [if_neg (show ¬ (c = 94 ∧ h = 1) by omega), if_pos (show c = 42 ∨ c = 47 by omega), ef, if_pos (show c = 42 by omega)]; rfl
          show Z _ _ _ _ _ _ _ _ 72 _ []
          refine z_goto (tgt := 228) C d_R_readAfterAtom_72 (by decide) ?_
          exact z_vret C ⟨rfl, rfl, zoutR_tr (zoutR_tr (zoutR_tr (zoutR_tr zoutR_rf (zoutR_w (show zoutR M M r (r + 4) from zoutR_rf) (by omega) (by omega))) hfr_43) (zoutR_w (show zoutR M_43 (zU M_43 (r + 3) (.inl (E.2.1 0, 9, .inl (upd (fun j => nI (bf j)) n (nI 10))))) r (r + 4) from (fun q hq => (zU_ne (by omega)))) (by omega) (by omega))) hfr_69, by rw [eend]; exact H_69⟩ d_R_readAfterAtom_228
  show Z X E 2 _ 0 0 sz M 0 [(0, .ref r), (1, .int (nI c))] []
  refine z_iload_n C d_R_readAfterAtom_0 rfl rfl ?_
  refine z_bipush (v := nI 94) C d_R_readAfterAtom_1 (by decide) ?_
  refine z_icmp_ne (tgt := 30) C d_R_readAfterAtom_3 (by decide) (fun c_3 => ?_) (fun c_3 => ?_)
  · have c_3 : ¬ c = 94 := fun q => c_3 (congrArg nI q)
    exact k30 (by omega)
  · have c_3 : c = 94 := (nI_eq (a := c) (b := 94) (by omega) (by omega)).mp c_3
    refine z_aload_n C d_R_readAfterAtom_6 rfl rfl ?_
    refine z_get C in_R h0 rfl 10 (by decide) fl_R_99 rfl rfl d_R_readAfterAtom_7 ?_
    refine z_if_eq (tgt := 30) C d_R_readAfterAtom_10 (by decide) (fun c_10 => ?_) (fun c_10 => ?_)
    · have c_10 : h = 0 := (nI_eq (a := h) (b := 0) (by omega) (by omega)).mp c_10
      exact k30 (by omega)
    · have c_10 : ¬ h = 0 := fun q => c_10 (congrArg nI q)
      refine z_aload_n C d_R_readAfterAtom_13 rfl rfl ?_
      refine z_dup C d_R_readAfterAtom_14 rfl ?_
      refine z_get C in_R h0 rfl 6 (by decide) fl_R_35 rfl rfl d_R_readAfterAtom_15 ?_
      refine z_iconst (v := nI 1) C d_R_readAfterAtom_18 (by decide) ?_
      refine z_iadd C d_R_readAfterAtom_19 ?_
      refine z_top (y := nI (i + 1)) (nI_add _ _) ?_
      refine z_put C in_R ty_R tok_R nm_R h0 rfl 6 (by decide) fl_R_35 rfl rfl rfl (rfl) (rfl) (Nat.le_of_ble_eq_true rfl) d_R_readAfterAtom_20 ?_
      show Z _ _ _ _ _ _ _ (zU M r (.inr (5, [.ref (r + 1), .ref (r + 2), .ref (r + 3), .int (nI n), .ref p, .ref (p + 2), .int (nI (i + 1)), .int (nI k), .int (nI w), .int (nI y), .int (nI h)]))) _ _ _
      refine z_aload_n C d_R_readAfterAtom_23 rfl rfl ?_
      have hoG_24 : zoutR M (zU M r (.inr (5, [.ref (r + 1), .ref (r + 2), .ref (r + 3), .int (nI n), .ref p, .ref (p + 2), .int (nI (i + 1)), .int (nI k), .int (nI w), .int (nI y), .int (nI h)]))) r (r + 4) := (fun q hq => (zU_ne (by omega)))
      have G_24 : zrd E (zU M r (.inr (5, [.ref (r + 1), .ref (r + 2), .ref (r + 3), .int (nI n), .ref p, .ref (p + 2), .int (nI (i + 1)), .int (nI k), .int (nI w), .int (nI y), .int (nI h)]))) r p cs (o, a, b, n, (i + 1), k, w, y, h, ps, t) := ⟨zU_eq, (zU_ne (by omega)).trans h1, (zU_ne (by omega)).trans h2, (zU_ne (by omega)).trans h3, zpg_oR hoG_24 hg (by omega), zln_oR hoG_24 hz (by omega), hpr, bo, ba, bb, by omega, by omega, by omega, by omega, by omega⟩
      refine z_callV (rest := []) (n := 0) (As := []) C (r_readExponent E X.2.1 sz _ G_24 (by omega)) ⟨z_cb C k_R_readExponent ml_R_102 ii_R rfl rfl (by decide +kernel) ⟨by decide, by decide⟩, C.2.2.2.2.1 _ im_R_readExponent, C.2.2.2.2.1 _ se_R_readExponent⟩ G_24.1 rfl rfl rfl (Nat.le_of_ble_eq_true rfl) d_R_readAfterAtom_24 ⟨by decide, by decide⟩ ?_
      intro v_24 s_24 M_24 hp_24
      obtain ⟨rfl, rfl, hfr_24, H_24⟩ := hp_24
      have eend : r_aft cs c (o, a, b, n, i, k, w, y, h, ps, t) = r_ex cs (o, a, b, n, (i + 1), k, w, y, h, ps, t) := by simp only [r_aft]; rw [if_pos (show c = 94 ∧ h = 1 by omega)]
      show Z _ _ _ _ _ _ _ _ 27 _ []
      refine z_goto (tgt := 228) C d_R_readAfterAtom_27 (by decide) ?_
      exact z_vret C ⟨rfl, rfl, zoutR_tr (zoutR_tr zoutR_rf (zoutR_w (show zoutR M (zU M r (.inr (5, [.ref (r + 1), .ref (r + 2), .ref (r + 3), .int (nI n), .ref p, .ref (p + 2), .int (nI (i + 1)), .int (nI k), .int (nI w), .int (nI y), .int (nI h)]))) r (r + 4) from (fun q hq => (zU_ne (by omega)))) (by omega) (by omega))) hfr_24, by rw [eend]; exact H_24⟩ d_R_readAfterAtom_228
