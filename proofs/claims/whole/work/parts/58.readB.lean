theorem ofI_neg {v : Nat} : -(nI v) = Int32.ofInt (if True then -(v : Int) else (v : Int)) := by
  rw [if_pos trivial, Int32.ofInt_neg]; rfl
set_option maxHeartbeats 4000000 in
/-- readTarget -/
theorem r_readTarget (E : zE) (l : Launch) (sz : Nat) (M : zM) {r p : Nat} {cs : List Nat} {o a b : Nat → Nat} {n i k w y h : Nat} {ps : List (Nat × Int)} {t : Int32} (H : zrd E M r p cs (o, a, b, n, i, k, w, y, h, ps, t)) : zMet E l y_R_readTarget c_R_readTarget 1 none { frames := 1, cells := 0, slots := 0, locals := 21 } 0 0 [.ref r] sz M (fun v s M' => none = v ∧ sz = s ∧ zoutR M M' (p + 2) (r + 4) ∧ zrd E M' r p cs (r_tg cs (o, a, b, n, i, k, w, y, h, ps, t))) := by
  obtain ⟨h0, h1, h2, h3, hg, hz, hpr, bo, ba, bb, bn, bk, bw, b_y, bh⟩ := id H
  have b0 := zln_lt (zrd_l H) 0
  have b1 := zln_lt (zrd_l H) 1
  refine zMet.ofZ (by decide) (Nat.le_of_ble_eq_true rfl) ?_
  intro X hl hini C
  show Z X E 1 _ 0 0 sz M 0 [(0, .ref r)] []
  have wt : ∀ M' : zM, M' = zU (zU M (p + 2) (.inr (4, [.ref (p + 2 + 1), .ref (p + 2 + 2), .int (nI (ps.map img).length), .int (nI (cs.getD 0 0 - 97))]))) r (.inr (5, [.ref (r + 1), .ref (r + 2), .ref (r + 3), .int (nI n), .ref p, .ref (p + 2), .int (nI 2), .int (nI k), .int (nI w), .int (nI y), .int (nI h)])) → zoutR M M' (p + 2) (r + 4) ∧ zrd E M' r p cs (o, a, b, n, 2, k, w, y, h, ps, nI (cs.getD 0 0 - 97)) := by
    intro M' e
    have ho : ∀ q, q ≠ r → q ≠ p + 2 → M' q = M q := fun q h1 h2 => by rw [e, zU_ne h1, zU_ne h2]
    obtain ⟨kf, df, g0, g1, g2, g3⟩ := id hg
    obtain ⟨f, l0, l1, l2⟩ := id hz
    exact ⟨fun q hq => ho q (by omega) (by omega), by rw [e]; exact zU_eq, (ho _ (by omega) (by omega)).trans h1, (ho _ (by omega) (by omega)).trans h2, (ho _ (by omega) (by omega)).trans h3, ⟨kf, df, by rw [e]; exact (zU_ne (by omega)).trans zU_eq, (ho _ (by omega) (by omega)).trans g1, (ho _ (by omega) (by omega)).trans g2, g3⟩, ⟨f, (ho _ (by omega) (by omega)).trans l0, (ho _ (by omega) (by omega)).trans l1, l2⟩, hpr, bo, ba, bb, bn, bk, bw, b_y, bh⟩
  have hg4 := zrd_g H
  refine z_aload_n C d_R_readTarget_0 rfl rfl ?_
  refine z_get C in_R h0 rfl 4 (by decide) fl_R_22 rfl rfl d_R_readTarget_1 ?_
  refine z_iconst (v := nI 0) C d_R_readTarget_4 (by decide) ?_
  have hoG_5 : zoutR M M r (r + 4) := zoutR_rf
  have G_5 : zrd E M r p cs (o, a, b, n, i, k, w, y, h, ps, t) := ⟨h0, h1, h2, h3, zpg_oR hoG_5 hg (by omega), zln_oR hoG_5 hz (by omega), hpr, bo, ba, bb, by omega, by omega, by omega, by omega, by omega⟩
  refine z_callV (rest := []) (n := 1) (As := [.int (nI 0)]) C (l_at E X.2.1 sz _ (zrd_l G_5) 0 (by omega)) ⟨z_cb C k_L_at ml_R_60 ii_L rfl rfl (by decide +kernel) ⟨by decide, by decide⟩, C.2.2.2.2.1 _ im_L_at, C.2.2.2.2.1 _ se_L_at⟩ (zrd_p G_5) rfl rfl rfl (Nat.le_of_ble_eq_true rfl) d_R_readTarget_5 ⟨by decide, by decide⟩ ?_
  intro v_5 s_5 M_5 hp_5
  obtain ⟨rfl, rfl, rfl⟩ := hp_5
  show Z _ _ _ _ _ _ _ _ 8 _ [.int (nI (cs.getD 0 0))]
  have ch_5 := zln_lt (zrd_l H) 0
  refine z_callS (rest := []) (n := 1) (As := [.int (nI (cs.getD 0 0))]) C (r_isName E X.2.1 sz _ (cs.getD 0 0) (by omega)) ⟨z_cb C k_R_isName ml_R_74 ii_R rfl rfl (by decide +kernel) ⟨by decide, by decide⟩, C.2.2.2.2.1 _ sm_R_isName⟩ rfl rfl (Nat.le_of_ble_eq_true rfl) d_R_readTarget_8 ⟨by decide, by decide⟩ ?_
  intro v_8 s_8 M_8 hp_8
  obtain ⟨rfl, rfl, rfl⟩ := hp_8
  show Z _ _ _ _ _ _ _ _ 11 _ [.int (nI (if isNm (cs.getD 0 0) then 1 else 0))]
  refine z_if_eq (tgt := 50) C d_R_readTarget_11 (by decide) (fun c_11 => ?_) (fun c_11 => ?_)
  · have c_11 : ¬ isNm (cs.getD 0 0) := fun q => by rw [if_pos q] at c_11; exact absurd c_11 (by decide)
    exact z_vret C ⟨rfl, rfl, zoutR_rf, by rw [show r_tg cs (o, a, b, n, i, k, w, y, h, ps, t) = (o, a, b, n, i, k, w, y, h, ps, t) from if_neg (by rintro ⟨q1, q2⟩; first | exact c_11 q1 | exact c_24 q2)]; exact H⟩ d_R_readTarget_50
  · have c_11 : isNm (cs.getD 0 0) := by
      by_cases q : isNm (cs.getD 0 0)
      · exact q
      · exact absurd (by rw [if_neg q]; rfl) c_11
    refine z_aload_n C d_R_readTarget_14 rfl rfl ?_
    refine z_get C in_R h0 rfl 4 (by decide) fl_R_22 rfl rfl d_R_readTarget_15 ?_
    refine z_iconst (v := nI 1) C d_R_readTarget_18 (by decide) ?_
    have hoG_19 : zoutR M M r (r + 4) := zoutR_rf
    have G_19 : zrd E M r p cs (o, a, b, n, i, k, w, y, h, ps, t) := ⟨h0, h1, h2, h3, zpg_oR hoG_19 hg (by omega), zln_oR hoG_19 hz (by omega), hpr, bo, ba, bb, by omega, by omega, by omega, by omega, by omega⟩
    refine z_callV (rest := []) (n := 1) (As := [.int (nI 1)]) C (l_at E X.2.1 sz _ (zrd_l G_19) 1 (by omega)) ⟨z_cb C k_L_at ml_R_60 ii_L rfl rfl (by decide +kernel) ⟨by decide, by decide⟩, C.2.2.2.2.1 _ im_L_at, C.2.2.2.2.1 _ se_L_at⟩ (zrd_p G_19) rfl rfl rfl (Nat.le_of_ble_eq_true rfl) d_R_readTarget_19 ⟨by decide, by decide⟩ ?_
    intro v_19 s_19 M_19 hp_19
    obtain ⟨rfl, rfl, rfl⟩ := hp_19
    show Z _ _ _ _ _ _ _ _ 22 _ [.int (nI (cs.getD 1 0))]
    have ch_19 := zln_lt (zrd_l H) 1
    refine z_bipush (v := nI 58) C d_R_readTarget_22 (by decide) ?_
    refine z_icmp_ne (tgt := 50) C d_R_readTarget_24 (by decide) (fun c_24 => ?_) (fun c_24 => ?_)
    · have c_24 : ¬ (cs.getD 1 0) = 58 := fun q => c_24 (congrArg nI q)
      exact z_vret C ⟨rfl, rfl, zoutR_rf, by rw [show r_tg cs (o, a, b, n, i, k, w, y, h, ps, t) = (o, a, b, n, i, k, w, y, h, ps, t) from if_neg (by rintro ⟨q1, q2⟩; first | exact c_11 q1 | exact c_24 q2)]; exact H⟩ d_R_readTarget_50
    · have c_24 : (cs.getD 1 0) = 58 := (nI_eq (a := (cs.getD 1 0)) (b := 58) (by omega) (by omega)).mp c_24
      refine z_aload_n C d_R_readTarget_27 rfl rfl ?_
      refine z_get C in_R h0 rfl 5 (by decide) fl_R_26 rfl rfl d_R_readTarget_28 ?_
      refine z_aload_n C d_R_readTarget_31 rfl rfl ?_
      refine z_get C in_R h0 rfl 4 (by decide) fl_R_22 rfl rfl d_R_readTarget_32 ?_
      refine z_iconst (v := nI 0) C d_R_readTarget_35 (by decide) ?_
      have hoG_36 : zoutR M M r (r + 4) := zoutR_rf
      have G_36 : zrd E M r p cs (o, a, b, n, i, k, w, y, h, ps, t) := ⟨h0, h1, h2, h3, zpg_oR hoG_36 hg (by omega), zln_oR hoG_36 hz (by omega), hpr, bo, ba, bb, by omega, by omega, by omega, by omega, by omega⟩
      refine z_callV (rest := [.ref (p + 2)]) (n := 1) (As := [.int (nI 0)]) C (l_at E X.2.1 sz _ (zrd_l G_36) 0 (by omega)) ⟨z_cb C k_L_at ml_R_60 ii_L rfl rfl (by decide +kernel) ⟨by decide, by decide⟩, C.2.2.2.2.1 _ im_L_at, C.2.2.2.2.1 _ se_L_at⟩ (zrd_p G_36) rfl rfl rfl (Nat.le_of_ble_eq_true rfl) d_R_readTarget_36 ⟨by decide, by decide⟩ ?_
      intro v_36 s_36 M_36 hp_36
      obtain ⟨rfl, rfl, rfl⟩ := hp_36
      show Z _ _ _ _ _ _ _ _ 39 _ [.int (nI (cs.getD 0 0)), .ref (p + 2)]
      have ch_36 := zln_lt (zrd_l H) 0
      refine z_bipush (v := nI 97) C d_R_readTarget_39 (by decide) ?_
      refine z_isub C d_R_readTarget_41 ?_
      refine z_top (y := nI (cs.getD 0 0 - 97)) (pk_sub c_11.1) ?_
      refine z_putN C in_G ty_G tok_G nm_G hg4 rfl 3 (by decide) fl_R_78 rfl rfl rfl (rfl) (rfl) (Nat.le_of_ble_eq_true rfl) d_R_readTarget_42 ?_
      show Z _ _ _ _ _ _ _ (zU M (p + 2) (.inr (4, [.ref (p + 2 + 1), .ref (p + 2 + 2), .int (nI (ps.map img).length), .int (nI (cs.getD 0 0 - 97))]))) _ _ _
      refine z_aload_n C d_R_readTarget_45 rfl rfl ?_
      refine z_iconst (v := nI 2) C d_R_readTarget_46 (by decide) ?_
      refine z_put C in_R ty_R tok_R nm_R ((zU_ne (by omega)).trans h0) rfl 6 (by decide) fl_R_35 rfl rfl rfl (rfl) (rfl) (Nat.le_of_ble_eq_true rfl) d_R_readTarget_47 ?_
      show Z _ _ _ _ _ _ _ (zU (zU M (p + 2) (.inr (4, [.ref (p + 2 + 1), .ref (p + 2 + 2), .int (nI (ps.map img).length), .int (nI (cs.getD 0 0 - 97))]))) r (.inr (5, [.ref (r + 1), .ref (r + 2), .ref (r + 3), .int (nI n), .ref p, .ref (p + 2), .int (nI 2), .int (nI k), .int (nI w), .int (nI y), .int (nI h)]))) _ _ _
      obtain ⟨w1, w2⟩ := wt _ rfl
      exact z_vret C ⟨rfl, rfl, w1, by rw [show r_tg cs (o, a, b, n, i, k, w, y, h, ps, t) = (o, a, b, n, 2, k, w, y, h, ps, nI (cs.getD 0 0 - 97)) from if_pos ⟨c_11, c_24⟩]; exact w2⟩ d_R_readTarget_50
theorem rnum_le (cs : List Nat) (x : Nat) : ∀ (d w i : Nat), i ≤ (rnum cs x d w i).2 ∧ (rnum cs x d w i).2 ≤ i + d ∧ (w ≤ x → (rnum cs x d w i).1 ≤ x) := by
  intro d
  induction d with
  | zero => intro w i; exact ⟨Nat.le_refl _, Nat.le_refl _, fun h => h⟩
  | succ d ih =>
    intro w i
    unfold rnum
    split
    · next q =>
      obtain ⟨h1, h2, h3⟩ := ih (w * 10 + (cs.getD i 0 - 48)) (i + 1)
      exact ⟨by omega, by omega, fun _ => h3 q.2⟩
    · exact ⟨Nat.le_refl _, by omega, fun h => h⟩
set_option maxHeartbeats 4000000 in
/-- readNumber -/
theorem r_readNumber (E : zE) (l : Launch) (sz : Nat) (M : zM) {r p : Nat} {cs : List Nat} {o a b : Nat → Nat} {n i k w y h : Nat} {ps : List (Nat × Int)} {t : Int32} (H : zrd E M r p cs (o, a, b, n, i, k, w, y, h, ps, t)) (m x : Nat) (hm : m ≤ 5) (hx : x ≤ 99999) (hi : i ≤ 100) : zMet E l y_R_readNumber c_R_readNumber 6 (some .int) { frames := 1, cells := 0, slots := 0, locals := 21 } 0 0 [.ref r, .int (nI m), .int (nI x)] sz M (fun v s M' => some (.int (nI (rnum cs x m 0 i).1)) = v ∧ sz = s ∧ zoutR M M' (p + 2) (r + 4) ∧ zrd E M' r p cs (r_num cs m x (o, a, b, n, i, k, w, y, h, ps, t))) := by
  obtain ⟨h0, h1, h2, h3, hg, hz, hpr, bo, ba, bb, bn, bk, bw, b_y, bh⟩ := id H
  refine zMet.ofZ (by decide) (Nat.le_of_ble_eq_true rfl) ?_
  intro X hl hini C
  have fin : ∀ (M1 : zM) (v j : Nat), j ≤ 5 → zoutR M M1 (p + 2) (r + 4) → zrd E M1 r p cs (o, a, b, n, i + j, k, w, y, h, ps, t) → rnum cs x m 0 i = (v, i + j) → Z X E 6 (zQ X E 0 0 (fun v s M' => some (.int (nI (rnum cs x m 0 i).1)) = v ∧ sz = s ∧ zoutR M M' (p + 2) (r + 4) ∧ zrd E M' r p cs (r_num cs m x (o, a, b, n, i, k, w, y, h, ps, t)))) 0 0 sz M1 77 [(0, .ref r), (1, .int (nI m)), (2, .int (nI x)), (3, .int (nI v)), (4, .int (nI j))] [] := by
    intro M1 v j hj hfr1 H1 e1
    obtain ⟨h0_1, h1_1, h2_1, h3_1, hg_1, hz_1, hpr_1, bo_1, ba_1, bb_1, bn_1, bk_1, bw_1, b_y_1, bh_1⟩ := id H1
    refine z_iload C d_R_readNumber_77 rfl ?_
    refine z_if_ne (tgt := 87) C d_R_readNumber_79 (by decide) (fun c_79 => ?_) (fun c_79 => ?_)
    · have c_79 : ¬ j = 0 := fun q => c_79 (congrArg nI q)
      refine z_iload_n C d_R_readNumber_87 rfl rfl ?_
      have hoGend : zoutR M1 M1 r (r + 4) := zoutR_rf
      have Gend : zrd E M1 r p cs (o, a, b, n, (i + j), k, w, y, h, ps, t) := ⟨h0_1, h1_1, h2_1, h3_1, zpg_oR hoGend hg_1 (by omega), zln_oR hoGend hz_1 (by omega), hpr_1, bo_1, ba_1, bb_1, by omega, by omega, by omega, by omega, by omega⟩
      have eend : r_num cs m x (o, a, b, n, i, k, w, y, h, ps, t) = (o, a, b, n, (i + j), k, w, y, h, ps, t) := by
        show (o, a, b, n, (rnum cs x m 0 i).2, (if (rnum cs x m 0 i).2 = i then 1 else k), w, y, h, ps, t) = _
        rw [e1]
        show (o, a, b, n, i + j, (if i + j = i then 1 else k), w, y, h, ps, t) = _
        rw [if_neg (by omega)]
      exact z_iret C ⟨by rw [e1], rfl, (zoutR_tr hfr1 (zoutR_w (show zoutR M1 M1 r (r + 4) from zoutR_rf) (by omega) (by omega))), by rw [eend]; exact Gend⟩ d_R_readNumber_88
    · have c_79 : j = 0 := (nI_eq (a := j) (b := 0) (by omega) (by omega)).mp c_79
      refine z_aload_n C d_R_readNumber_82 rfl rfl ?_
      refine z_iconst (v := nI 1) C d_R_readNumber_83 (by decide) ?_
      refine z_put C in_R ty_R tok_R nm_R h0_1 rfl 7 (by decide) fl_R_39 rfl rfl rfl (rfl) (rfl) (Nat.le_of_ble_eq_true rfl) d_R_readNumber_84 ?_
      show Z _ _ _ _ _ _ _ (zU M1 r (.inr (5, [.ref (r + 1), .ref (r + 2), .ref (r + 3), .int (nI n), .ref p, .ref (p + 2), .int (nI (i + j)), .int (nI 1), .int (nI w), .int (nI y), .int (nI h)]))) _ _ _
      refine z_iload_n C d_R_readNumber_87 rfl rfl ?_
      have hoGend : zoutR M1 (zU M1 r (.inr (5, [.ref (r + 1), .ref (r + 2), .ref (r + 3), .int (nI n), .ref p, .ref (p + 2), .int (nI (i + j)), .int (nI 1), .int (nI w), .int (nI y), .int (nI h)]))) r (r + 4) := (fun q hq => (zU_ne (by omega)))
      have Gend : zrd E (zU M1 r (.inr (5, [.ref (r + 1), .ref (r + 2), .ref (r + 3), .int (nI n), .ref p, .ref (p + 2), .int (nI (i + j)), .int (nI 1), .int (nI w), .int (nI y), .int (nI h)]))) r p cs (o, a, b, n, (i + j), 1, w, y, h, ps, t) := ⟨zU_eq, (zU_ne (by omega)).trans h1_1, (zU_ne (by omega)).trans h2_1, (zU_ne (by omega)).trans h3_1, zpg_oR hoGend hg_1 (by omega), zln_oR hoGend hz_1 (by omega), hpr_1, bo_1, ba_1, bb_1, by omega, by omega, by omega, by omega, by omega⟩
      have eend : r_num cs m x (o, a, b, n, i, k, w, y, h, ps, t) = (o, a, b, n, (i + j), 1, w, y, h, ps, t) := by
        show (o, a, b, n, (rnum cs x m 0 i).2, (if (rnum cs x m 0 i).2 = i then 1 else k), w, y, h, ps, t) = _
        rw [e1]
        show (o, a, b, n, i + j, (if i + j = i then 1 else k), w, y, h, ps, t) = _
        rw [if_pos (by omega)]
      exact z_iret C ⟨by rw [e1], rfl, (zoutR_tr hfr1 (zoutR_w (show zoutR M1 (zU M1 r (.inr (5, [.ref (r + 1), .ref (r + 2), .ref (r + 3), .int (nI n), .ref p, .ref (p + 2), .int (nI (i + j)), .int (nI 1), .int (nI w), .int (nI y), .int (nI h)]))) r (r + 4) from (fun q hq => (zU_ne (by omega)))) (by omega) (by omega))), by rw [eend]; exact Gend⟩ d_R_readNumber_88
  have loop : ∀ (d j v : Nat) (M1 : zM), j + d = m → zoutR M M1 (p + 2) (r + 4) → zrd E M1 r p cs (o, a, b, n, i + j, k, w, y, h, ps, t) → v ≤ x → rnum cs x m 0 i = rnum cs x d v (i + j) → Z X E 6 (zQ X E 0 0 (fun v s M' => some (.int (nI (rnum cs x m 0 i).1)) = v ∧ sz = s ∧ zoutR M M' (p + 2) (r + 4) ∧ zrd E M' r p cs (r_num cs m x (o, a, b, n, i, k, w, y, h, ps, t)))) 0 0 sz M1 5 [(0, .ref r), (1, .int (nI m)), (2, .int (nI x)), (3, .int (nI v)), (4, .int (nI j))] [] := by
    intro d
    induction d with
    | zero =>
      intro j v M1 hj hfr1 H1 hv e1
      refine z_iload C d_R_readNumber_5 rfl ?_
      refine z_iload_n C d_R_readNumber_7 rfl rfl ?_
      refine z_icmp_ge (tgt := 77) C d_R_readNumber_8 (by decide) (fun _ => ?_) (fun c_8 => absurd ((nI_leI (by omega) (by omega)).mpr (by omega)) c_8)
      exact fin M1 v j (by omega) hfr1 H1 e1
    | succ d ih =>
      intro j v M1 hj hfr1 H1 hv e1
      obtain ⟨h0_1, h1_1, h2_1, h3_1, hg_1, hz_1, hpr_1, bo_1, ba_1, bb_1, bn_1, bk_1, bw_1, b_y_1, bh_1⟩ := id H1
      have ch := zln_lt (zrd_l H) (i + j)
      refine z_iload C d_R_readNumber_5 rfl ?_
      refine z_iload_n C d_R_readNumber_7 rfl rfl ?_
      refine z_icmp_ge (tgt := 77) C d_R_readNumber_8 (by decide) (fun c_8 => absurd c_8 (fun q => absurd ((nI_leI (by omega) (by omega)).mp q) (by omega))) (fun _ => ?_)
      refine z_aload_n C d_R_readNumber_11 rfl rfl ?_
      refine z_get C in_R h0_1 rfl 4 (by decide) fl_R_22 rfl rfl d_R_readNumber_12 ?_
      refine z_aload_n C d_R_readNumber_15 rfl rfl ?_
      refine z_get C in_R h0_1 rfl 6 (by decide) fl_R_35 rfl rfl d_R_readNumber_16 ?_
      have hoG_19 : zoutR M1 M1 r (r + 4) := zoutR_rf
      have G_19 : zrd E M1 r p cs (o, a, b, n, (i + j), k, w, y, h, ps, t) := ⟨h0_1, h1_1, h2_1, h3_1, zpg_oR hoG_19 hg_1 (by omega), zln_oR hoG_19 hz_1 (by omega), hpr_1, bo_1, ba_1, bb_1, by omega, by omega, by omega, by omega, by omega⟩
      refine z_callV (rest := []) (n := 1) (As := [.int (nI (i + j))]) C (l_at E X.2.1 sz _ (zrd_l G_19) (i + j) (by omega)) ⟨z_cb C k_L_at ml_R_60 ii_L rfl rfl (by decide +kernel) ⟨by decide, by decide⟩, C.2.2.2.2.1 _ im_L_at, C.2.2.2.2.1 _ se_L_at⟩ (zrd_p G_19) rfl rfl rfl (Nat.le_of_ble_eq_true rfl) d_R_readNumber_19 ⟨by decide, by decide⟩ ?_
      intro v_19 s_19 M_19 hp_19
      obtain ⟨rfl, rfl, rfl⟩ := hp_19
      show Z _ _ _ _ _ _ _ _ 22 _ [.int (nI (cs.getD (i + j) 0))]
      have ch_19 := zln_lt (zrd_l H) (i + j)
      refine z_callS (rest := []) (n := 1) (As := [.int (nI (cs.getD (i + j) 0))]) C (r_isDigit E X.2.1 sz _ (cs.getD (i + j) 0) (by omega)) ⟨z_cb C k_R_isDigit ml_R_84 ii_R rfl rfl (by decide +kernel) ⟨by decide, by decide⟩, C.2.2.2.2.1 _ sm_R_isDigit⟩ rfl rfl (Nat.le_of_ble_eq_true rfl) d_R_readNumber_22 ⟨by decide, by decide⟩ ?_
      intro v_22 s_22 M_22 hp_22
      obtain ⟨rfl, rfl, rfl⟩ := hp_22
      show Z _ _ _ _ _ _ _ _ 25 _ [.int (nI (if isD (cs.getD (i + j) 0) then 1 else 0))]
      refine z_if_eq (tgt := 77) C d_R_readNumber_25 (by decide) (fun c_25 => ?_) (fun c_25 => ?_)
      · have c_25 : ¬ isD (cs.getD (i + j) 0) := fun q => by rw [if_pos q] at c_25; exact absurd c_25 (by decide)
        refine z_sub [0, 1, 2, 3, 4] rfl ?_
        refine fin M1 v j (by omega) hfr1 H1 ?_
        rw [e1]; unfold rnum; rw [if_neg (fun q => c_25 q.1)]
      · have c_25 : isD (cs.getD (i + j) 0) := by
          by_cases q : isD (cs.getD (i + j) 0)
          · exact q
          · exact absurd (by rw [if_neg q]; rfl) c_25
        refine z_iload_n C d_R_readNumber_28 rfl rfl ?_
        refine z_bipush (v := nI 10) C d_R_readNumber_29 (by decide) ?_
        refine z_imul C d_R_readNumber_31 ?_
        refine z_top (y := nI (v * 10)) (pk_mul _ _) ?_
        refine z_aload_n C d_R_readNumber_32 rfl rfl ?_
        refine z_get C in_R h0_1 rfl 4 (by decide) fl_R_22 rfl rfl d_R_readNumber_33 ?_
        refine z_aload_n C d_R_readNumber_36 rfl rfl ?_
        refine z_get C in_R h0_1 rfl 6 (by decide) fl_R_35 rfl rfl d_R_readNumber_37 ?_
        have hoG_40 : zoutR M1 M1 r (r + 4) := zoutR_rf
        have G_40 : zrd E M1 r p cs (o, a, b, n, (i + j), k, w, y, h, ps, t) := ⟨h0_1, h1_1, h2_1, h3_1, zpg_oR hoG_40 hg_1 (by omega), zln_oR hoG_40 hz_1 (by omega), hpr_1, bo_1, ba_1, bb_1, by omega, by omega, by omega, by omega, by omega⟩
        refine z_callV (rest := [.int (nI (v * 10))]) (n := 1) (As := [.int (nI (i + j))]) C (l_at E X.2.1 sz _ (zrd_l G_40) (i + j) (by omega)) ⟨z_cb C k_L_at ml_R_60 ii_L rfl rfl (by decide +kernel) ⟨by decide, by decide⟩, C.2.2.2.2.1 _ im_L_at, C.2.2.2.2.1 _ se_L_at⟩ (zrd_p G_40) rfl rfl rfl (Nat.le_of_ble_eq_true rfl) d_R_readNumber_40 ⟨by decide, by decide⟩ ?_
        intro v_40 s_40 M_40 hp_40
        obtain ⟨rfl, rfl, rfl⟩ := hp_40
        show Z _ _ _ _ _ _ _ _ 43 _ [.int (nI (cs.getD (i + j) 0)), .int (nI (v * 10))]
        have ch_40 := zln_lt (zrd_l H) (i + j)
        refine z_bipush (v := nI 48) C d_R_readNumber_43 (by decide) ?_
        refine z_isub C d_R_readNumber_45 ?_
        refine z_top (y := nI (cs.getD (i + j) 0 - 48)) (pk_sub c_25.1) ?_
        refine z_iadd C d_R_readNumber_46 ?_
        refine z_top (y := nI ((v * 10) + (cs.getD (i + j) 0 - 48))) (nI_add _ _) ?_
        refine z_istore (L' := [(0, .ref r), (1, .int (nI m)), (2, .int (nI x)), (3, .int (nI v)), (4, .int (nI j)), (5, .int (nI ((v * 10) + (cs.getD (i + j) 0 - 48))))]) C d_R_readNumber_47 (by decide) rfl ?_
        refine z_iload C d_R_readNumber_49 rfl ?_
        refine z_iload_n C d_R_readNumber_51 rfl rfl ?_
        refine z_icmp_le (tgt := 58) C d_R_readNumber_52 (by decide) (fun c_52 => ?_) (fun c_52 => ?_)
        · have c_52 : ((v * 10) + (cs.getD (i + j) 0 - 48)) ≤ x := (nI_leI (a := ((v * 10) + (cs.getD (i + j) 0 - 48))) (b := x) (by omega) (by omega)).mp c_52
          refine z_iload C d_R_readNumber_58 rfl ?_
          refine z_istore_n (L' := [(0, .ref r), (1, .int (nI m)), (2, .int (nI x)), (3, .int (nI ((v * 10) + (cs.getD (i + j) 0 - 48)))), (4, .int (nI j)), (5, .int (nI ((v * 10) + (cs.getD (i + j) 0 - 48))))]) C d_R_readNumber_60 rfl (by decide) rfl ?_
          refine z_iinc (v := nI (j + 1)) (L' := [(0, .ref r), (1, .int (nI m)), (2, .int (nI x)), (3, .int (nI ((v * 10) + (cs.getD (i + j) 0 - 48)))), (4, .int (nI (j + 1))), (5, .int (nI ((v * 10) + (cs.getD (i + j) 0 - 48))))]) C d_R_readNumber_61 rfl (nI_add _ 1) (by decide) rfl ?_
          refine z_aload_n C d_R_readNumber_64 rfl rfl ?_
          refine z_dup C d_R_readNumber_65 rfl ?_
          refine z_get C in_R h0_1 rfl 6 (by decide) fl_R_35 rfl rfl d_R_readNumber_66 ?_
          refine z_iconst (v := nI 1) C d_R_readNumber_69 (by decide) ?_
          refine z_iadd C d_R_readNumber_70 ?_
          refine z_top (y := nI ((i + j) + 1)) (nI_add _ _) ?_
          refine z_put C in_R ty_R tok_R nm_R h0_1 rfl 6 (by decide) fl_R_35 rfl rfl rfl (rfl) (rfl) (Nat.le_of_ble_eq_true rfl) d_R_readNumber_71 ?_
          show Z _ _ _ _ _ _ _ (zU M1 r (.inr (5, [.ref (r + 1), .ref (r + 2), .ref (r + 3), .int (nI n), .ref p, .ref (p + 2), .int (nI ((i + j) + 1)), .int (nI k), .int (nI w), .int (nI y), .int (nI h)]))) _ _ _
          refine z_goto (tgt := 5) C d_R_readNumber_74 (by decide) ?_
          have hfr2 : zoutR M (zU M1 r (.inr (5, [.ref (r + 1), .ref (r + 2), .ref (r + 3), .int (nI n), .ref p, .ref (p + 2), .int (nI ((i + j) + 1)), .int (nI k), .int (nI w), .int (nI y), .int (nI h)]))) (p + 2) (r + 4) := (zoutR_tr hfr1 (zoutR_w (show zoutR M1 (zU M1 r (.inr (5, [.ref (r + 1), .ref (r + 2), .ref (r + 3), .int (nI n), .ref p, .ref (p + 2), .int (nI ((i + j) + 1)), .int (nI k), .int (nI w), .int (nI y), .int (nI h)]))) r (r + 4) from (fun q hq => (zU_ne (by omega)))) (by omega) (by omega)))
          have hoGn : zoutR M1 (zU M1 r (.inr (5, [.ref (r + 1), .ref (r + 2), .ref (r + 3), .int (nI n), .ref p, .ref (p + 2), .int (nI ((i + j) + 1)), .int (nI k), .int (nI w), .int (nI y), .int (nI h)]))) r (r + 4) := (fun q hq => (zU_ne (by omega)))
          have Gn : zrd E (zU M1 r (.inr (5, [.ref (r + 1), .ref (r + 2), .ref (r + 3), .int (nI n), .ref p, .ref (p + 2), .int (nI ((i + j) + 1)), .int (nI k), .int (nI w), .int (nI y), .int (nI h)]))) r p cs (o, a, b, n, ((i + j) + 1), k, w, y, h, ps, t) := ⟨zU_eq, (zU_ne (by omega)).trans h1_1, (zU_ne (by omega)).trans h2_1, (zU_ne (by omega)).trans h3_1, zpg_oR hoGn hg_1 (by omega), zln_oR hoGn hz_1 (by omega), hpr_1, bo_1, ba_1, bb_1, by omega, by omega, by omega, by omega, by omega⟩
          refine z_sub [0, 1, 2, 3, 4] rfl ?_
          refine ih (j + 1) (v * 10 + (cs.getD (i + j) 0 - 48)) _ (by omega) hfr2 Gn (by omega) ?_
          rw [e1]; conv => lhs; unfold rnum
          rw [if_pos ⟨c_25, by omega⟩]; rfl
        · have c_52 : x < ((v * 10) + (cs.getD (i + j) 0 - 48)) := Nat.not_le.mp (fun q => c_52 ((nI_leI (a := ((v * 10) + (cs.getD (i + j) 0 - 48))) (b := x) (by omega) (by omega)).mpr q))
          refine z_goto (tgt := 77) C d_R_readNumber_55 (by decide) ?_
          refine z_sub [0, 1, 2, 3, 4] rfl ?_
          refine fin M1 v j (by omega) hfr1 H1 ?_
          rw [e1]; unfold rnum; rw [if_neg (fun q => absurd q.2 (by omega))]
  show Z X E 6 _ 0 0 sz M 0 [(0, .ref r), (1, .int (nI m)), (2, .int (nI x))] []
  refine z_iconst (v := nI 0) C d_R_readNumber_0 (by decide) ?_
  refine z_istore_n (L' := [(0, .ref r), (1, .int (nI m)), (2, .int (nI x)), (3, .int (nI 0))]) C d_R_readNumber_1 rfl (by decide) rfl ?_
  refine z_iconst (v := nI 0) C d_R_readNumber_2 (by decide) ?_
  refine z_istore (L' := [(0, .ref r), (1, .int (nI m)), (2, .int (nI x)), (3, .int (nI 0)), (4, .int (nI 0))]) C d_R_readNumber_3 (by decide) rfl ?_
  exact loop m 0 0 M (by omega) zoutR_rf H (by omega) rfl
set_option maxHeartbeats 4000000 in
/-- readOpening -/
theorem r_readOpening (E : zE) (l : Launch) (sz : Nat) (M : zM) {r p : Nat} {cs : List Nat} {o a b : Nat → Nat} {n i k w y h : Nat} {ps : List (Nat × Int)} {t : Int32} (H : zrd E M r p cs (o, a, b, n, i, k, w, y, h, ps, t)) (c : Nat) (hc : c < 128) (hi : i ≤ 100) : zMet E l y_R_readOpening c_R_readOpening 2 none { frames := 1, cells := 0, slots := 0, locals := 21 } 0 0 [.ref r, .int (nI c)] sz M (fun v s M' => none = v ∧ sz = s ∧ zoutR M M' (p + 2) (r + 4) ∧ zrd E M' r p cs (r_op cs c (o, a, b, n, i, k, w, y, h, ps, t))) := by
  obtain ⟨h0, h1, h2, h3, hg, hz, hpr, bo, ba, bb, bn, bk, bw, b_y, bh⟩ := id H
  refine zMet.ofZ (by decide) (Nat.le_of_ble_eq_true rfl) ?_
  intro X hl hini C
  show Z X E 2 _ 0 0 sz M 0 [(0, .ref r), (1, .int (nI c))] []
  refine z_aload_n C d_R_readOpening_0 rfl rfl ?_
  refine z_get C in_R h0 rfl 3 (by decide) fl_R_43 rfl rfl d_R_readOpening_1 ?_
  refine z_bipush (v := nI 8) C d_R_readOpening_4 (by decide) ?_
  refine z_icmp_lt (tgt := 15) C d_R_readOpening_6 (by decide) (fun c_6 => ?_) (fun c_6 => ?_)
  · have c_6 : n < 8 := (nI_ltI (a := n) (b := 8) (by omega) (by omega)).mp c_6
    refine z_iload_n C d_R_readOpening_15 rfl rfl ?_
    refine z_bipush (v := nI 40) C d_R_readOpening_16 (by decide) ?_
    refine z_icmp_eq (tgt := 31) C d_R_readOpening_18 (by decide) (fun c_18 => ?_) (fun c_18 => ?_)
    · have c_18 : c = 40 := (nI_eq (a := c) (b := 40) (by omega) (by omega)).mp c_18
      refine z_aload_n C d_R_readOpening_31 rfl rfl ?_
      refine z_get C in_R h0 rfl 4 (by decide) fl_R_22 rfl rfl d_R_readOpening_32 ?_
      refine z_aload_n C d_R_readOpening_35 rfl rfl ?_
      refine z_get C in_R h0 rfl 6 (by decide) fl_R_35 rfl rfl d_R_readOpening_36 ?_
      have hoG_39 : zoutR M M r (r + 4) := zoutR_rf
      have G_39 : zrd E M r p cs (o, a, b, n, i, k, w, y, h, ps, t) := ⟨h0, h1, h2, h3, zpg_oR hoG_39 hg (by omega), zln_oR hoG_39 hz (by omega), hpr, bo, ba, bb, by omega, by omega, by omega, by omega, by omega⟩
      refine z_callV (rest := []) (n := 1) (As := [.int (nI i)]) C (l_at E X.2.1 sz _ (zrd_l G_39) i (by omega)) ⟨z_cb C k_L_at ml_R_60 ii_L rfl rfl (by decide +kernel) ⟨by decide, by decide⟩, C.2.2.2.2.1 _ im_L_at, C.2.2.2.2.1 _ se_L_at⟩ (zrd_p G_39) rfl rfl rfl (Nat.le_of_ble_eq_true rfl) d_R_readOpening_39 ⟨by decide, by decide⟩ ?_
      intro v_39 s_39 M_39 hp_39
      obtain ⟨rfl, rfl, rfl⟩ := hp_39
      show Z _ _ _ _ _ _ _ _ 42 _ [.int (nI (cs.getD i 0))]
      have ch_39 := zln_lt (zrd_l H) i
      refine z_bipush (v := nI 40) C d_R_readOpening_42 (by decide) ?_
      refine z_icmp_eq (tgt := 53) C d_R_readOpening_44 (by decide) (fun c_44 => ?_) (fun c_44 => ?_)
      · have c_44 : (cs.getD i 0) = 40 := (nI_eq (a := (cs.getD i 0)) (b := 40) (by omega) (by omega)).mp c_44
        refine z_aload_n C d_R_readOpening_53 rfl rfl ?_
        refine z_dup C d_R_readOpening_54 rfl ?_
        refine z_get C in_R h0 rfl 6 (by decide) fl_R_35 rfl rfl d_R_readOpening_55 ?_
        refine z_iconst (v := nI 1) C d_R_readOpening_58 (by decide) ?_
        refine z_iadd C d_R_readOpening_59 ?_
        refine z_top (y := nI (i + 1)) (nI_add _ _) ?_
        refine z_put C in_R ty_R tok_R nm_R h0 rfl 6 (by decide) fl_R_35 rfl rfl rfl (rfl) (rfl) (Nat.le_of_ble_eq_true rfl) d_R_readOpening_60 ?_
        show Z _ _ _ _ _ _ _ (zU M r (.inr (5, [.ref (r + 1), .ref (r + 2), .ref (r + 3), .int (nI n), .ref p, .ref (p + 2), .int (nI (i + 1)), .int (nI k), .int (nI w), .int (nI y), .int (nI h)]))) _ _ _
        refine z_aload_n C d_R_readOpening_63 rfl rfl ?_
        refine z_dup C d_R_readOpening_64 rfl ?_
        refine z_get C in_R zU_eq rfl 3 (by decide) fl_R_43 rfl rfl d_R_readOpening_65 ?_
        refine z_iconst (v := nI 1) C d_R_readOpening_68 (by decide) ?_
        refine z_iadd C d_R_readOpening_69 ?_
        refine z_top (y := nI (n + 1)) (nI_add _ _) ?_
        refine z_put C in_R ty_R tok_R nm_R zU_eq rfl 3 (by decide) fl_R_43 rfl rfl rfl (rfl) (rfl) (Nat.le_of_ble_eq_true rfl) d_R_readOpening_70 ?_
        show Z _ _ _ _ _ _ _ (zU (zU M r (.inr (5, [.ref (r + 1), .ref (r + 2), .ref (r + 3), .int (nI n), .ref p, .ref (p + 2), .int (nI (i + 1)), .int (nI k), .int (nI w), .int (nI y), .int (nI h)]))) r (.inr (5, [.ref (r + 1), .ref (r + 2), .ref (r + 3), .int (nI (n + 1)), .ref p, .ref (p + 2), .int (nI (i + 1)), .int (nI k), .int (nI w), .int (nI y), .int (nI h)]))) _ _ _
        refine z_world zU_uu ?_
        refine z_aload_n C d_R_readOpening_73 rfl rfl ?_
        refine z_get C in_R zU_eq rfl 0 (by decide) fl_R_9 rfl rfl d_R_readOpening_74 ?_
        refine z_aload_n C d_R_readOpening_77 rfl rfl ?_
        refine z_get C in_R zU_eq rfl 3 (by decide) fl_R_43 rfl rfl d_R_readOpening_78 ?_
        refine z_iload_n C d_R_readOpening_81 rfl rfl ?_
        refine z_cast C ((zU_ne (by omega)).trans h1) 1 rfl (n + 1) (rfl) (by omega) (by omega) (by have := (pk_charN (q := c) (by omega)).1; unfold vp_nar; rw [this]) d_R_readOpening_82 ?_
        refine z_aload_n C d_R_readOpening_83 rfl rfl ?_
        have hoG_84 : zoutR M (zU (zU M r (.inr (5, [.ref (r + 1), .ref (r + 2), .ref (r + 3), .int (nI (n + 1)), .ref p, .ref (p + 2), .int (nI (i + 1)), .int (nI k), .int (nI w), .int (nI y), .int (nI h)]))) (r + 1) (.inl (E.2.1 1, 9, .inl (upd (fun j => nI (o j)) (n + 1) (nI c))))) r (r + 4) := (fun q hq => ((zU_ne (by omega)).trans (zU_ne (by omega))))
        have G_84 : zrd E (zU (zU M r (.inr (5, [.ref (r + 1), .ref (r + 2), .ref (r + 3), .int (nI (n + 1)), .ref p, .ref (p + 2), .int (nI (i + 1)), .int (nI k), .int (nI w), .int (nI y), .int (nI h)]))) (r + 1) (.inl (E.2.1 1, 9, .inl (upd (fun j => nI (o j)) (n + 1) (nI c))))) r p cs ((updN o (n + 1) c), a, b, (n + 1), (i + 1), k, w, y, h, ps, t) := ⟨(zU_ne (by omega)).trans zU_eq, (by rw [← nI_upd]; exact zU_eq), (zU_ne (by omega)).trans ((zU_ne (by omega)).trans h2), (zU_ne (by omega)).trans ((zU_ne (by omega)).trans h3), zpg_oR hoG_84 hg (by omega), zln_oR hoG_84 hz (by omega), hpr, (updN_b bo (by first | omega | decide)), ba, bb, by omega, by omega, by omega, by omega, by omega⟩
        refine z_callV (rest := []) (n := 0) (As := []) C (r_startSum E X.2.1 sz _ G_84) ⟨z_cb C k_R_startSum ml_R_46 ii_R rfl rfl (by decide +kernel) ⟨by decide, by decide⟩, C.2.2.2.2.1 _ im_R_startSum, C.2.2.2.2.1 _ se_R_startSum⟩ G_84.1 rfl rfl rfl (Nat.le_of_ble_eq_true rfl) d_R_readOpening_84 ⟨by decide, by decide⟩ ?_
        intro v_84 s_84 M_84 hp_84
        obtain ⟨rfl, rfl, hfr_84, H_84⟩ := hp_84
        obtain ⟨h0_84, h1_84, h2_84, h3_84, hg_84, hz_84, hpr_84, bo_84, ba_84, bb_84, bn_84, bk_84, bw_84, b_y_84, bh_84⟩ := id H_84
        show Z _ _ _ _ _ _ _ _ 87 _ []
        have hoGend : zoutR M_84 M_84 r (r + 4) := zoutR_rf
        have Gend : zrd E M_84 r p cs ((updN o (n + 1) c), (updN a (n + 1) 0), (updN b (n + 1) 0), (n + 1), (i + 1), k, 1, 1, h, ps, t) := ⟨h0_84, h1_84, h2_84, h3_84, zpg_oR hoGend hg_84 (by omega), zln_oR hoGend hz_84 (by omega), hpr_84, bo_84, ba_84, bb_84, by omega, by omega, by omega, by omega, by omega⟩
        have eend : r_op cs c (o, a, b, n, i, k, w, y, h, ps, t) = ((updN o (n + 1) c), (updN a (n + 1) 0), (updN b (n + 1) 0), (n + 1), (i + 1), k, 1, 1, h, ps, t) := by
          simp only [r_op]; rw [if_neg (show ¬ 8 ≤ n by omega), if_pos (show c = 40 by omega), if_pos (show cs.getD i 0 = 40 by omega)]; rfl
        exact z_vret C ⟨rfl, rfl, (zoutR_tr (zoutR_tr (zoutR_tr zoutR_rf (zoutR_w (show zoutR M (zU (zU M r (.inr (5, [.ref (r + 1), .ref (r + 2), .ref (r + 3), .int (nI (n + 1)), .ref p, .ref (p + 2), .int (nI (i + 1)), .int (nI k), .int (nI w), .int (nI y), .int (nI h)]))) (r + 1) (.inl (E.2.1 1, 9, .inl (upd (fun j => nI (o j)) (n + 1) (nI c))))) r (r + 4) from (fun q hq => ((zU_ne (by omega)).trans (zU_ne (by omega))))) (by omega) (by omega))) hfr_84) (zoutR_w (show zoutR M_84 M_84 r (r + 4) from zoutR_rf) (by omega) (by omega))), by rw [eend]; exact Gend⟩ d_R_readOpening_87
      · have c_44 : ¬ (cs.getD i 0) = 40 := fun q => c_44 (congrArg nI q)
        refine z_aload_n C d_R_readOpening_47 rfl rfl ?_
        refine z_iconst (v := nI 1) C d_R_readOpening_48 (by decide) ?_
        refine z_put C in_R ty_R tok_R nm_R h0 rfl 7 (by decide) fl_R_39 rfl rfl rfl (rfl) (rfl) (Nat.le_of_ble_eq_true rfl) d_R_readOpening_49 ?_
        show Z _ _ _ _ _ _ _ (zU M r (.inr (5, [.ref (r + 1), .ref (r + 2), .ref (r + 3), .int (nI n), .ref p, .ref (p + 2), .int (nI i), .int (nI 1), .int (nI w), .int (nI y), .int (nI h)]))) _ _ _
        have hoGend : zoutR M (zU M r (.inr (5, [.ref (r + 1), .ref (r + 2), .ref (r + 3), .int (nI n), .ref p, .ref (p + 2), .int (nI i), .int (nI 1), .int (nI w), .int (nI y), .int (nI h)]))) r (r + 4) := (fun q hq => (zU_ne (by omega)))
        have Gend : zrd E (zU M r (.inr (5, [.ref (r + 1), .ref (r + 2), .ref (r + 3), .int (nI n), .ref p, .ref (p + 2), .int (nI i), .int (nI 1), .int (nI w), .int (nI y), .int (nI h)]))) r p cs (o, a, b, n, i, 1, w, y, h, ps, t) := ⟨zU_eq, (zU_ne (by omega)).trans h1, (zU_ne (by omega)).trans h2, (zU_ne (by omega)).trans h3, zpg_oR hoGend hg (by omega), zln_oR hoGend hz (by omega), hpr, bo, ba, bb, by omega, by omega, by omega, by omega, by omega⟩
        have eend : r_op cs c (o, a, b, n, i, k, w, y, h, ps, t) = (o, a, b, n, i, 1, w, y, h, ps, t) := by simp only [r_op]; rw [if_neg (show ¬ 8 ≤ n by omega), if_pos (show c = 40 by omega), if_neg (show ¬ cs.getD i 0 = 40 by omega)]
        exact z_vret C ⟨rfl, rfl, (zoutR_tr zoutR_rf (zoutR_w (show zoutR M (zU M r (.inr (5, [.ref (r + 1), .ref (r + 2), .ref (r + 3), .int (nI n), .ref p, .ref (p + 2), .int (nI i), .int (nI 1), .int (nI w), .int (nI y), .int (nI h)]))) r (r + 4) from (fun q hq => (zU_ne (by omega)))) (by omega) (by omega))), by rw [eend]; exact Gend⟩ d_R_readOpening_52
    · have c_18 : ¬ c = 40 := fun q => c_18 (congrArg nI q)
      refine z_aload_n C d_R_readOpening_21 rfl rfl ?_
      refine z_dup C d_R_readOpening_22 rfl ?_
      refine z_get C in_R h0 rfl 6 (by decide) fl_R_35 rfl rfl d_R_readOpening_23 ?_
      refine z_iconst (v := nI 1) C d_R_readOpening_26 (by decide) ?_
      refine z_iadd C d_R_readOpening_27 ?_
      refine z_top (y := nI (i + 1)) (nI_add _ _) ?_
      refine z_put C in_R ty_R tok_R nm_R h0 rfl 6 (by decide) fl_R_35 rfl rfl rfl (rfl) (rfl) (Nat.le_of_ble_eq_true rfl) d_R_readOpening_28 ?_
      show Z _ _ _ _ _ _ _ (zU M r (.inr (5, [.ref (r + 1), .ref (r + 2), .ref (r + 3), .int (nI n), .ref p, .ref (p + 2), .int (nI (i + 1)), .int (nI k), .int (nI w), .int (nI y), .int (nI h)]))) _ _ _
      refine z_aload_n C d_R_readOpening_31 rfl rfl ?_
      refine z_get C in_R zU_eq rfl 4 (by decide) fl_R_22 rfl rfl d_R_readOpening_32 ?_
      refine z_aload_n C d_R_readOpening_35 rfl rfl ?_
      refine z_get C in_R zU_eq rfl 6 (by decide) fl_R_35 rfl rfl d_R_readOpening_36 ?_
      have hoG_39 : zoutR M (zU M r (.inr (5, [.ref (r + 1), .ref (r + 2), .ref (r + 3), .int (nI n), .ref p, .ref (p + 2), .int (nI (i + 1)), .int (nI k), .int (nI w), .int (nI y), .int (nI h)]))) r (r + 4) := (fun q hq => (zU_ne (by omega)))
      have G_39 : zrd E (zU M r (.inr (5, [.ref (r + 1), .ref (r + 2), .ref (r + 3), .int (nI n), .ref p, .ref (p + 2), .int (nI (i + 1)), .int (nI k), .int (nI w), .int (nI y), .int (nI h)]))) r p cs (o, a, b, n, (i + 1), k, w, y, h, ps, t) := ⟨zU_eq, (zU_ne (by omega)).trans h1, (zU_ne (by omega)).trans h2, (zU_ne (by omega)).trans h3, zpg_oR hoG_39 hg (by omega), zln_oR hoG_39 hz (by omega), hpr, bo, ba, bb, by omega, by omega, by omega, by omega, by omega⟩
      refine z_callV (rest := []) (n := 1) (As := [.int (nI (i + 1))]) C (l_at E X.2.1 sz _ (zrd_l G_39) (i + 1) (by omega)) ⟨z_cb C k_L_at ml_R_60 ii_L rfl rfl (by decide +kernel) ⟨by decide, by decide⟩, C.2.2.2.2.1 _ im_L_at, C.2.2.2.2.1 _ se_L_at⟩ (zrd_p G_39) rfl rfl rfl (Nat.le_of_ble_eq_true rfl) d_R_readOpening_39 ⟨by decide, by decide⟩ ?_
      intro v_39 s_39 M_39 hp_39
      obtain ⟨rfl, rfl, rfl⟩ := hp_39
      show Z _ _ _ _ _ _ _ _ 42 _ [.int (nI (cs.getD (i + 1) 0))]
      have ch_39 := zln_lt (zrd_l H) (i + 1)
      refine z_bipush (v := nI 40) C d_R_readOpening_42 (by decide) ?_
      refine z_icmp_eq (tgt := 53) C d_R_readOpening_44 (by decide) (fun c_44 => ?_) (fun c_44 => ?_)
      · have c_44 : (cs.getD (i + 1) 0) = 40 := (nI_eq (a := (cs.getD (i + 1) 0)) (b := 40) (by omega) (by omega)).mp c_44
        refine z_aload_n C d_R_readOpening_53 rfl rfl ?_
        refine z_dup C d_R_readOpening_54 rfl ?_
        refine z_get C in_R zU_eq rfl 6 (by decide) fl_R_35 rfl rfl d_R_readOpening_55 ?_
        refine z_iconst (v := nI 1) C d_R_readOpening_58 (by decide) ?_
        refine z_iadd C d_R_readOpening_59 ?_
        refine z_top (y := nI ((i + 1) + 1)) (nI_add _ _) ?_
        refine z_put C in_R ty_R tok_R nm_R zU_eq rfl 6 (by decide) fl_R_35 rfl rfl rfl (rfl) (rfl) (Nat.le_of_ble_eq_true rfl) d_R_readOpening_60 ?_
        show Z _ _ _ _ _ _ _ (zU (zU M r (.inr (5, [.ref (r + 1), .ref (r + 2), .ref (r + 3), .int (nI n), .ref p, .ref (p + 2), .int (nI (i + 1)), .int (nI k), .int (nI w), .int (nI y), .int (nI h)]))) r (.inr (5, [.ref (r + 1), .ref (r + 2), .ref (r + 3), .int (nI n), .ref p, .ref (p + 2), .int (nI ((i + 1) + 1)), .int (nI k), .int (nI w), .int (nI y), .int (nI h)]))) _ _ _
        refine z_world zU_uu ?_
        refine z_aload_n C d_R_readOpening_63 rfl rfl ?_
        refine z_dup C d_R_readOpening_64 rfl ?_
        refine z_get C in_R zU_eq rfl 3 (by decide) fl_R_43 rfl rfl d_R_readOpening_65 ?_
        refine z_iconst (v := nI 1) C d_R_readOpening_68 (by decide) ?_
        refine z_iadd C d_R_readOpening_69 ?_
        refine z_top (y := nI (n + 1)) (nI_add _ _) ?_
        refine z_put C in_R ty_R tok_R nm_R zU_eq rfl 3 (by decide) fl_R_43 rfl rfl rfl (rfl) (rfl) (Nat.le_of_ble_eq_true rfl) d_R_readOpening_70 ?_
        show Z _ _ _ _ _ _ _ (zU (zU M r (.inr (5, [.ref (r + 1), .ref (r + 2), .ref (r + 3), .int (nI n), .ref p, .ref (p + 2), .int (nI ((i + 1) + 1)), .int (nI k), .int (nI w), .int (nI y), .int (nI h)]))) r (.inr (5, [.ref (r + 1), .ref (r + 2), .ref (r + 3), .int (nI (n + 1)), .ref p, .ref (p + 2), .int (nI ((i + 1) + 1)), .int (nI k), .int (nI w), .int (nI y), .int (nI h)]))) _ _ _
        refine z_world zU_uu ?_
        refine z_aload_n C d_R_readOpening_73 rfl rfl ?_
        refine z_get C in_R zU_eq rfl 0 (by decide) fl_R_9 rfl rfl d_R_readOpening_74 ?_
        refine z_aload_n C d_R_readOpening_77 rfl rfl ?_
        refine z_get C in_R zU_eq rfl 3 (by decide) fl_R_43 rfl rfl d_R_readOpening_78 ?_
        refine z_iload_n C d_R_readOpening_81 rfl rfl ?_
        refine z_cast C ((zU_ne (by omega)).trans h1) 1 rfl (n + 1) (rfl) (by omega) (by omega) (by have := (pk_charN (q := c) (by omega)).1; unfold vp_nar; rw [this]) d_R_readOpening_82 ?_
        refine z_aload_n C d_R_readOpening_83 rfl rfl ?_
        have hoG_84 : zoutR M (zU (zU M r (.inr (5, [.ref (r + 1), .ref (r + 2), .ref (r + 3), .int (nI (n + 1)), .ref p, .ref (p + 2), .int (nI ((i + 1) + 1)), .int (nI k), .int (nI w), .int (nI y), .int (nI h)]))) (r + 1) (.inl (E.2.1 1, 9, .inl (upd (fun j => nI (o j)) (n + 1) (nI c))))) r (r + 4) := (fun q hq => ((zU_ne (by omega)).trans (zU_ne (by omega))))
        have G_84 : zrd E (zU (zU M r (.inr (5, [.ref (r + 1), .ref (r + 2), .ref (r + 3), .int (nI (n + 1)), .ref p, .ref (p + 2), .int (nI ((i + 1) + 1)), .int (nI k), .int (nI w), .int (nI y), .int (nI h)]))) (r + 1) (.inl (E.2.1 1, 9, .inl (upd (fun j => nI (o j)) (n + 1) (nI c))))) r p cs ((updN o (n + 1) c), a, b, (n + 1), ((i + 1) + 1), k, w, y, h, ps, t) := ⟨(zU_ne (by omega)).trans zU_eq, (by rw [← nI_upd]; exact zU_eq), (zU_ne (by omega)).trans ((zU_ne (by omega)).trans h2), (zU_ne (by omega)).trans ((zU_ne (by omega)).trans h3), zpg_oR hoG_84 hg (by omega), zln_oR hoG_84 hz (by omega), hpr, (updN_b bo (by first | omega | decide)), ba, bb, by omega, by omega, by omega, by omega, by omega⟩
        refine z_callV (rest := []) (n := 0) (As := []) C (r_startSum E X.2.1 sz _ G_84) ⟨z_cb C k_R_startSum ml_R_46 ii_R rfl rfl (by decide +kernel) ⟨by decide, by decide⟩, C.2.2.2.2.1 _ im_R_startSum, C.2.2.2.2.1 _ se_R_startSum⟩ G_84.1 rfl rfl rfl (Nat.le_of_ble_eq_true rfl) d_R_readOpening_84 ⟨by decide, by decide⟩ ?_
        intro v_84 s_84 M_84 hp_84
        obtain ⟨rfl, rfl, hfr_84, H_84⟩ := hp_84
        obtain ⟨h0_84, h1_84, h2_84, h3_84, hg_84, hz_84, hpr_84, bo_84, ba_84, bb_84, bn_84, bk_84, bw_84, b_y_84, bh_84⟩ := id H_84
        show Z _ _ _ _ _ _ _ _ 87 _ []
        have hoGend : zoutR M_84 M_84 r (r + 4) := zoutR_rf
        have Gend : zrd E M_84 r p cs ((updN o (n + 1) c), (updN a (n + 1) 0), (updN b (n + 1) 0), (n + 1), ((i + 1) + 1), k, 1, 1, h, ps, t) := ⟨h0_84, h1_84, h2_84, h3_84, zpg_oR hoGend hg_84 (by omega), zln_oR hoGend hz_84 (by omega), hpr_84, bo_84, ba_84, bb_84, by omega, by omega, by omega, by omega, by omega⟩
        have eend : r_op cs c (o, a, b, n, i, k, w, y, h, ps, t) = ((updN o (n + 1) c), (updN a (n + 1) 0), (updN b (n + 1) 0), (n + 1), ((i + 1) + 1), k, 1, 1, h, ps, t) := by
          simp only [r_op]; rw [if_neg (show ¬ 8 ≤ n by omega), if_neg (show ¬ c = 40 by omega), if_pos (show cs.getD (i + 1) 0 = 40 by omega)]; rfl
        exact z_vret C ⟨rfl, rfl, (zoutR_tr (zoutR_tr (zoutR_tr zoutR_rf (zoutR_w (show zoutR M (zU (zU M r (.inr (5, [.ref (r + 1), .ref (r + 2), .ref (r + 3), .int (nI (n + 1)), .ref p, .ref (p + 2), .int (nI ((i + 1) + 1)), .int (nI k), .int (nI w), .int (nI y), .int (nI h)]))) (r + 1) (.inl (E.2.1 1, 9, .inl (upd (fun j => nI (o j)) (n + 1) (nI c))))) r (r + 4) from (fun q hq => ((zU_ne (by omega)).trans (zU_ne (by omega))))) (by omega) (by omega))) hfr_84) (zoutR_w (show zoutR M_84 M_84 r (r + 4) from zoutR_rf) (by omega) (by omega))), by rw [eend]; exact Gend⟩ d_R_readOpening_87
      · have c_44 : ¬ (cs.getD (i + 1) 0) = 40 := fun q => c_44 (congrArg nI q)
        refine z_aload_n C d_R_readOpening_47 rfl rfl ?_
        refine z_iconst (v := nI 1) C d_R_readOpening_48 (by decide) ?_
        refine z_put C in_R ty_R tok_R nm_R zU_eq rfl 7 (by decide) fl_R_39 rfl rfl rfl (rfl) (rfl) (Nat.le_of_ble_eq_true rfl) d_R_readOpening_49 ?_
        show Z _ _ _ _ _ _ _ (zU (zU M r (.inr (5, [.ref (r + 1), .ref (r + 2), .ref (r + 3), .int (nI n), .ref p, .ref (p + 2), .int (nI (i + 1)), .int (nI k), .int (nI w), .int (nI y), .int (nI h)]))) r (.inr (5, [.ref (r + 1), .ref (r + 2), .ref (r + 3), .int (nI n), .ref p, .ref (p + 2), .int (nI (i + 1)), .int (nI 1), .int (nI w), .int (nI y), .int (nI h)]))) _ _ _
        refine z_world zU_uu ?_
        have hoGend : zoutR M (zU M r (.inr (5, [.ref (r + 1), .ref (r + 2), .ref (r + 3), .int (nI n), .ref p, .ref (p + 2), .int (nI (i + 1)), .int (nI 1), .int (nI w), .int (nI y), .int (nI h)]))) r (r + 4) := (fun q hq => (zU_ne (by omega)))
        have Gend : zrd E (zU M r (.inr (5, [.ref (r + 1), .ref (r + 2), .ref (r + 3), .int (nI n), .ref p, .ref (p + 2), .int (nI (i + 1)), .int (nI 1), .int (nI w), .int (nI y), .int (nI h)]))) r p cs (o, a, b, n, (i + 1), 1, w, y, h, ps, t) := ⟨zU_eq, (zU_ne (by omega)).trans h1, (zU_ne (by omega)).trans h2, (zU_ne (by omega)).trans h3, zpg_oR hoGend hg (by omega), zln_oR hoGend hz (by omega), hpr, bo, ba, bb, by omega, by omega, by omega, by omega, by omega⟩
        have eend : r_op cs c (o, a, b, n, i, k, w, y, h, ps, t) = (o, a, b, n, (i + 1), 1, w, y, h, ps, t) := by simp only [r_op]; rw [if_neg (show ¬ 8 ≤ n by omega), if_neg (show ¬ c = 40 by omega), if_neg (show ¬ cs.getD (i + 1) 0 = 40 by omega)]
        exact z_vret C ⟨rfl, rfl, (zoutR_tr zoutR_rf (zoutR_w (show zoutR M (zU M r (.inr (5, [.ref (r + 1), .ref (r + 2), .ref (r + 3), .int (nI n), .ref p, .ref (p + 2), .int (nI (i + 1)), .int (nI 1), .int (nI w), .int (nI y), .int (nI h)]))) r (r + 4) from (fun q hq => (zU_ne (by omega)))) (by omega) (by omega))), by rw [eend]; exact Gend⟩ d_R_readOpening_52
  · have c_6 : 8 ≤ n := Nat.not_lt.mp (fun q => c_6 ((nI_ltI (a := n) (b := 8) (by omega) (by omega)).mpr q))
    refine z_aload_n C d_R_readOpening_9 rfl rfl ?_
    refine z_iconst (v := nI 1) C d_R_readOpening_10 (by decide) ?_
    refine z_put C in_R ty_R tok_R nm_R h0 rfl 7 (by decide) fl_R_39 rfl rfl rfl (rfl) (rfl) (Nat.le_of_ble_eq_true rfl) d_R_readOpening_11 ?_
    show Z _ _ _ _ _ _ _ (zU M r (.inr (5, [.ref (r + 1), .ref (r + 2), .ref (r + 3), .int (nI n), .ref p, .ref (p + 2), .int (nI i), .int (nI 1), .int (nI w), .int (nI y), .int (nI h)]))) _ _ _
    have hoGend : zoutR M (zU M r (.inr (5, [.ref (r + 1), .ref (r + 2), .ref (r + 3), .int (nI n), .ref p, .ref (p + 2), .int (nI i), .int (nI 1), .int (nI w), .int (nI y), .int (nI h)]))) r (r + 4) := (fun q hq => (zU_ne (by omega)))
    have Gend : zrd E (zU M r (.inr (5, [.ref (r + 1), .ref (r + 2), .ref (r + 3), .int (nI n), .ref p, .ref (p + 2), .int (nI i), .int (nI 1), .int (nI w), .int (nI y), .int (nI h)]))) r p cs (o, a, b, n, i, 1, w, y, h, ps, t) := ⟨zU_eq, (zU_ne (by omega)).trans h1, (zU_ne (by omega)).trans h2, (zU_ne (by omega)).trans h3, zpg_oR hoGend hg (by omega), zln_oR hoGend hz (by omega), hpr, bo, ba, bb, by omega, by omega, by omega, by omega, by omega⟩
    have eend : r_op cs c (o, a, b, n, i, k, w, y, h, ps, t) = (o, a, b, n, i, 1, w, y, h, ps, t) := if_pos (by omega)
    exact z_vret C ⟨rfl, rfl, (zoutR_tr zoutR_rf (zoutR_w (show zoutR M (zU M r (.inr (5, [.ref (r + 1), .ref (r + 2), .ref (r + 3), .int (nI n), .ref p, .ref (p + 2), .int (nI i), .int (nI 1), .int (nI w), .int (nI y), .int (nI h)]))) r (r + 4) from (fun q hq => (zU_ne (by omega)))) (by omega) (by omega))), by rw [eend]; exact Gend⟩ d_R_readOpening_14
set_option maxHeartbeats 4000000 in
/-- readExponent -/
theorem r_readExponent (E : zE) (l : Launch) (sz : Nat) (M : zM) {r p : Nat} {cs : List Nat} {o a b : Nat → Nat} {n i k w y h : Nat} {ps : List (Nat × Int)} {t : Int32} (H : zrd E M r p cs (o, a, b, n, i, k, w, y, h, ps, t)) (hi : i ≤ 99) : zMet E l y_R_readExponent c_R_readExponent 3 none { frames := 2, cells := 0, slots := 0, locals := 46 } 0 0 [.ref r] sz M (fun v s M' => none = v ∧ sz = s ∧ zoutR M M' (p + 2) (r + 4) ∧ zrd E M' r p cs (r_ex cs (o, a, b, n, i, k, w, y, h, ps, t))) := by
  obtain ⟨h0, h1, h2, h3, hg, hz, hpr, bo, ba, bb, bn, bk, bw, b_y, bh⟩ := id H
  refine zMet.ofZ (by decide) (Nat.le_of_ble_eq_true rfl) ?_
  intro X hl hini C
  show Z X E 3 _ 0 0 sz M 0 [(0, .ref r)] []
  refine z_aload_n C d_R_readExponent_0 rfl rfl ?_
  refine z_get C in_R h0 rfl 4 (by decide) fl_R_22 rfl rfl d_R_readExponent_1 ?_
  refine z_aload_n C d_R_readExponent_4 rfl rfl ?_
  refine z_get C in_R h0 rfl 6 (by decide) fl_R_35 rfl rfl d_R_readExponent_5 ?_
  have hoG_8 : zoutR M M r (r + 4) := zoutR_rf
  have G_8 : zrd E M r p cs (o, a, b, n, i, k, w, y, h, ps, t) := ⟨h0, h1, h2, h3, zpg_oR hoG_8 hg (by omega), zln_oR hoG_8 hz (by omega), hpr, bo, ba, bb, by omega, by omega, by omega, by omega, by omega⟩
  refine z_callV (rest := []) (n := 1) (As := [.int (nI i)]) C (l_at E X.2.1 sz _ (zrd_l G_8) i (by omega)) ⟨z_cb C k_L_at ml_R_60 ii_L rfl rfl (by decide +kernel) ⟨by decide, by decide⟩, C.2.2.2.2.1 _ im_L_at, C.2.2.2.2.1 _ se_L_at⟩ (zrd_p G_8) rfl rfl rfl (Nat.le_of_ble_eq_true rfl) d_R_readExponent_8 ⟨by decide, by decide⟩ ?_
  intro v_8 s_8 M_8 hp_8
  obtain ⟨rfl, rfl, rfl⟩ := hp_8
  show Z _ _ _ _ _ _ _ _ 11 _ [.int (nI (cs.getD i 0))]
  have ch_8 := zln_lt (zrd_l H) i
  refine z_bipush (v := nI 45) C d_R_readExponent_11 (by decide) ?_
  refine z_icmp_ne (tgt := 20) C d_R_readExponent_13 (by decide) (fun c_13 => ?_) (fun c_13 => ?_)
  · have c_13 : ¬ (cs.getD i 0) = 45 := fun q => c_13 (congrArg nI q)
    refine z_iconst (v := nI 0) C d_R_readExponent_20 (by decide) ?_
    refine z_istore_n (L' := [(0, .ref r), (1, .int (nI 0))]) C d_R_readExponent_21 rfl (by decide) rfl ?_
    refine z_iload_n C d_R_readExponent_22 rfl rfl ?_
    refine z_if_eq (tgt := 36) C d_R_readExponent_23 (by decide) (fun _ => ?_) (fun c_23 => absurd (rfl) c_23)
    refine z_aload_n C d_R_readExponent_36 rfl rfl ?_
    refine z_iconst (v := nI 2) C d_R_readExponent_37 (by decide) ?_
    refine z_bipush (v := nI 12) C d_R_readExponent_38 (by decide) ?_
    have hr_40 := rnum_le cs 12 2 0 i
    have hoG_40 : zoutR M M r (r + 4) := zoutR_rf
    have G_40 : zrd E M r p cs (o, a, b, n, i, k, w, y, h, ps, t) := ⟨h0, h1, h2, h3, zpg_oR hoG_40 hg (by omega), zln_oR hoG_40 hz (by omega), hpr, bo, ba, bb, by omega, by omega, by omega, by omega, by omega⟩
    refine z_callV (rest := []) (n := 2) (As := [.int (nI 2), .int (nI 12)]) C (r_readNumber E X.2.1 sz _ G_40 2 12 (by omega) (by omega) (by omega)) ⟨z_cb C k_R_readNumber ml_R_88 ii_R rfl rfl (by decide +kernel) ⟨by decide, by decide⟩, C.2.2.2.2.1 _ im_R_readNumber, C.2.2.2.2.1 _ se_R_readNumber⟩ G_40.1 rfl rfl rfl (Nat.le_of_ble_eq_true rfl) d_R_readExponent_40 ⟨by decide, by decide⟩ ?_
    intro v_40 s_40 M_40 hp_40
    obtain ⟨rfl, rfl, hfr_40, H_40⟩ := hp_40
    obtain ⟨h0_40, h1_40, h2_40, h3_40, hg_40, hz_40, hpr_40, bo_40, ba_40, bb_40, bn_40, bk_40, bw_40, b_y_40, bh_40⟩ := id H_40
    show Z _ _ _ _ _ _ _ _ 43 _ [.int (nI (rnum cs 12 2 0 i).1)]
    refine z_istore_n (L' := [(0, .ref r), (1, .int (nI 0)), (2, .int (nI (rnum cs 12 2 0 i).1))]) C d_R_readExponent_43 rfl (by decide) rfl ?_
    refine z_aload_n C d_R_readExponent_44 rfl rfl ?_
    refine z_get C in_R h0_40 rfl 5 (by decide) fl_R_26 rfl rfl d_R_readExponent_45 ?_
    refine z_iconst (v := nI 5) C d_R_readExponent_48 (by decide) ?_
    refine z_iload_n C d_R_readExponent_49 rfl rfl ?_
    refine z_if_eq (tgt := 58) C d_R_readExponent_50 (by decide) (fun _ => ?_) (fun c_50 => absurd (rfl) c_50)
    refine z_iload_n C d_R_readExponent_58 rfl rfl ?_
    have hoG_59 : zoutR M_40 M_40 r (r + 4) := zoutR_rf
    have G_59 : zrd E M_40 r p cs (o, a, b, n, (rnum cs 12 2 0 i).2, (if (rnum cs 12 2 0 i).2 = i then 1 else k), w, y, h, ps, t) := ⟨h0_40, h1_40, h2_40, h3_40, zpg_oR hoG_59 hg_40 (by omega), zln_oR hoG_59 hz_40 (by omega), hpr_40, bo_40, ba_40, bb_40, by omega, by omega, by omega, by omega, by omega⟩
    refine z_callV (rest := []) (n := 2) (As := [.int (nI 5), .int (nI (rnum cs 12 2 0 i).1)]) C (r_addG E X.2.1 sz _ G_59 (5, if False then -((rnum cs 12 2 0 i).1 : Int) else ((rnum cs 12 2 0 i).1 : Int)) rfl rfl) ⟨z_cb C k_G_add ml_R_114 ii_G rfl rfl (by decide +kernel) ⟨by decide, by decide⟩, C.2.2.2.2.1 _ im_G_add, C.2.2.2.2.1 _ se_G_add⟩ (zrd_g G_59) rfl rfl rfl (Nat.le_of_ble_eq_true rfl) d_R_readExponent_59 ⟨by decide, by decide⟩ ?_
    intro v_59 s_59 M_59 hp_59
    obtain ⟨rfl, rfl, hfr_59, H_59⟩ := hp_59
    obtain ⟨h0_59, h1_59, h2_59, h3_59, hg_59, hz_59, hpr_59, bo_59, ba_59, bb_59, bn_59, bk_59, bw_59, b_y_59, bh_59⟩ := id H_59
    show Z _ _ _ _ _ _ _ _ 62 _ []
    refine z_aload_n C d_R_readExponent_62 rfl rfl ?_
    refine z_iconst (v := nI 0) C d_R_readExponent_63 (by decide) ?_
    refine z_put C in_R ty_R tok_R nm_R h0_59 rfl 10 (by decide) fl_R_99 rfl rfl rfl (rfl) (rfl) (Nat.le_of_ble_eq_true rfl) d_R_readExponent_64 ?_
    show Z _ _ _ _ _ _ _ (zU M_59 r (.inr (5, [.ref (r + 1), .ref (r + 2), .ref (r + 3), .int (nI n), .ref p, .ref (p + 2), .int (nI ((rnum cs 12 2 0 i).2)), .int (nI (if (rnum cs 12 2 0 i).2 = i then 1 else k)), .int (nI w), .int (nI y), .int (nI 0)]))) _ _ _
    have hoGend : zoutR M_59 (zU M_59 r (.inr (5, [.ref (r + 1), .ref (r + 2), .ref (r + 3), .int (nI n), .ref p, .ref (p + 2), .int (nI ((rnum cs 12 2 0 i).2)), .int (nI (if (rnum cs 12 2 0 i).2 = i then 1 else k)), .int (nI w), .int (nI y), .int (nI 0)]))) r (r + 4) := (fun q hq => (zU_ne (by omega)))
    have Gend : zrd E (zU M_59 r (.inr (5, [.ref (r + 1), .ref (r + 2), .ref (r + 3), .int (nI n), .ref p, .ref (p + 2), .int (nI ((rnum cs 12 2 0 i).2)), .int (nI (if (rnum cs 12 2 0 i).2 = i then 1 else k)), .int (nI w), .int (nI y), .int (nI 0)]))) r p cs (o, a, b, n, (rnum cs 12 2 0 i).2, (if (rnum cs 12 2 0 i).2 = i then 1 else k), w, y, 0, (addp ps (5, if False then -((rnum cs 12 2 0 i).1 : Int) else ((rnum cs 12 2 0 i).1 : Int))), t) := ⟨zU_eq, (zU_ne (by omega)).trans h1_59, (zU_ne (by omega)).trans h2_59, (zU_ne (by omega)).trans h3_59, zpg_oR hoGend hg_59 (by omega), zln_oR hoGend hz_59 (by omega), hpr_59, bo_59, ba_59, bb_59, by omega, by omega, by omega, by omega, by omega⟩
    have eend : r_ex cs (o, a, b, n, i, k, w, y, h, ps, t) = (o, a, b, n, (rnum cs 12 2 0 i).2, (if (rnum cs 12 2 0 i).2 = i then 1 else k), w, y, 0, (addp ps (5, if False then -((rnum cs 12 2 0 i).1 : Int) else ((rnum cs 12 2 0 i).1 : Int))), t) := if_neg c_13
    exact z_vret C ⟨rfl, rfl, (zoutR_tr (zoutR_tr (zoutR_tr (zoutR_tr (zoutR_tr zoutR_rf (zoutR_w (show zoutR M M r (r + 4) from zoutR_rf) (by omega) (by omega))) hfr_40) (zoutR_w (show zoutR M_40 M_40 r (r + 4) from zoutR_rf) (by omega) (by omega))) hfr_59) (zoutR_w (show zoutR M_59 (zU M_59 r (.inr (5, [.ref (r + 1), .ref (r + 2), .ref (r + 3), .int (nI n), .ref p, .ref (p + 2), .int (nI ((rnum cs 12 2 0 i).2)), .int (nI (if (rnum cs 12 2 0 i).2 = i then 1 else k)), .int (nI w), .int (nI y), .int (nI 0)]))) r (r + 4) from (fun q hq => (zU_ne (by omega)))) (by omega) (by omega))), by rw [eend]; exact Gend⟩ d_R_readExponent_67
  · have c_13 : (cs.getD i 0) = 45 := (nI_eq (a := (cs.getD i 0)) (b := 45) (by omega) (by omega)).mp c_13
    refine z_iconst (v := nI 1) C d_R_readExponent_16 (by decide) ?_
    refine z_goto (tgt := 21) C d_R_readExponent_17 (by decide) ?_
    refine z_istore_n (L' := [(0, .ref r), (1, .int (nI 1))]) C d_R_readExponent_21 rfl (by decide) rfl ?_
    refine z_iload_n C d_R_readExponent_22 rfl rfl ?_
    refine z_if_eq (tgt := 36) C d_R_readExponent_23 (by decide) (fun c_23 => absurd c_23 (by decide)) (fun _ => ?_)
    refine z_aload_n C d_R_readExponent_26 rfl rfl ?_
    refine z_dup C d_R_readExponent_27 rfl ?_
    refine z_get C in_R h0 rfl 6 (by decide) fl_R_35 rfl rfl d_R_readExponent_28 ?_
    refine z_iconst (v := nI 1) C d_R_readExponent_31 (by decide) ?_
    refine z_iadd C d_R_readExponent_32 ?_
    refine z_top (y := nI (i + 1)) (nI_add _ _) ?_
    refine z_put C in_R ty_R tok_R nm_R h0 rfl 6 (by decide) fl_R_35 rfl rfl rfl (rfl) (rfl) (Nat.le_of_ble_eq_true rfl) d_R_readExponent_33 ?_
    show Z _ _ _ _ _ _ _ (zU M r (.inr (5, [.ref (r + 1), .ref (r + 2), .ref (r + 3), .int (nI n), .ref p, .ref (p + 2), .int (nI (i + 1)), .int (nI k), .int (nI w), .int (nI y), .int (nI h)]))) _ _ _
    refine z_aload_n C d_R_readExponent_36 rfl rfl ?_
    refine z_iconst (v := nI 2) C d_R_readExponent_37 (by decide) ?_
    refine z_bipush (v := nI 12) C d_R_readExponent_38 (by decide) ?_
    have hr_40 := rnum_le cs 12 2 0 (i + 1)
    have hoG_40 : zoutR M (zU M r (.inr (5, [.ref (r + 1), .ref (r + 2), .ref (r + 3), .int (nI n), .ref p, .ref (p + 2), .int (nI (i + 1)), .int (nI k), .int (nI w), .int (nI y), .int (nI h)]))) r (r + 4) := (fun q hq => (zU_ne (by omega)))
    have G_40 : zrd E (zU M r (.inr (5, [.ref (r + 1), .ref (r + 2), .ref (r + 3), .int (nI n), .ref p, .ref (p + 2), .int (nI (i + 1)), .int (nI k), .int (nI w), .int (nI y), .int (nI h)]))) r p cs (o, a, b, n, (i + 1), k, w, y, h, ps, t) := ⟨zU_eq, (zU_ne (by omega)).trans h1, (zU_ne (by omega)).trans h2, (zU_ne (by omega)).trans h3, zpg_oR hoG_40 hg (by omega), zln_oR hoG_40 hz (by omega), hpr, bo, ba, bb, by omega, by omega, by omega, by omega, by omega⟩
    refine z_callV (rest := []) (n := 2) (As := [.int (nI 2), .int (nI 12)]) C (r_readNumber E X.2.1 sz _ G_40 2 12 (by omega) (by omega) (by omega)) ⟨z_cb C k_R_readNumber ml_R_88 ii_R rfl rfl (by decide +kernel) ⟨by decide, by decide⟩, C.2.2.2.2.1 _ im_R_readNumber, C.2.2.2.2.1 _ se_R_readNumber⟩ G_40.1 rfl rfl rfl (Nat.le_of_ble_eq_true rfl) d_R_readExponent_40 ⟨by decide, by decide⟩ ?_
    intro v_40 s_40 M_40 hp_40
    obtain ⟨rfl, rfl, hfr_40, H_40⟩ := hp_40
    obtain ⟨h0_40, h1_40, h2_40, h3_40, hg_40, hz_40, hpr_40, bo_40, ba_40, bb_40, bn_40, bk_40, bw_40, b_y_40, bh_40⟩ := id H_40
    show Z _ _ _ _ _ _ _ _ 43 _ [.int (nI (rnum cs 12 2 0 (i + 1)).1)]
    refine z_istore_n (L' := [(0, .ref r), (1, .int (nI 1)), (2, .int (nI (rnum cs 12 2 0 (i + 1)).1))]) C d_R_readExponent_43 rfl (by decide) rfl ?_
    refine z_aload_n C d_R_readExponent_44 rfl rfl ?_
    refine z_get C in_R h0_40 rfl 5 (by decide) fl_R_26 rfl rfl d_R_readExponent_45 ?_
    refine z_iconst (v := nI 5) C d_R_readExponent_48 (by decide) ?_
    refine z_iload_n C d_R_readExponent_49 rfl rfl ?_
    refine z_if_eq (tgt := 58) C d_R_readExponent_50 (by decide) (fun c_50 => absurd c_50 (by decide)) (fun _ => ?_)
    refine z_iload_n C d_R_readExponent_53 rfl rfl ?_
    refine z_ineg C d_R_readExponent_54 ?_
    refine z_goto (tgt := 59) C d_R_readExponent_55 (by decide) ?_
    have hoG_59 : zoutR M_40 M_40 r (r + 4) := zoutR_rf
    have G_59 : zrd E M_40 r p cs (o, a, b, n, (rnum cs 12 2 0 (i + 1)).2, (if (rnum cs 12 2 0 (i + 1)).2 = (i + 1) then 1 else k), w, y, h, ps, t) := ⟨h0_40, h1_40, h2_40, h3_40, zpg_oR hoG_59 hg_40 (by omega), zln_oR hoG_59 hz_40 (by omega), hpr_40, bo_40, ba_40, bb_40, by omega, by omega, by omega, by omega, by omega⟩
    refine z_callV (rest := []) (n := 2) (As := [.int (nI 5), .int (-(nI (rnum cs 12 2 0 (i + 1)).1))]) C (r_addG E X.2.1 sz _ G_59 (5, if True then -((rnum cs 12 2 0 (i + 1)).1 : Int) else ((rnum cs 12 2 0 (i + 1)).1 : Int)) rfl ofI_neg) ⟨z_cb C k_G_add ml_R_114 ii_G rfl rfl (by decide +kernel) ⟨by decide, by decide⟩, C.2.2.2.2.1 _ im_G_add, C.2.2.2.2.1 _ se_G_add⟩ (zrd_g G_59) rfl rfl rfl (Nat.le_of_ble_eq_true rfl) d_R_readExponent_59 ⟨by decide, by decide⟩ ?_
    intro v_59 s_59 M_59 hp_59
    obtain ⟨rfl, rfl, hfr_59, H_59⟩ := hp_59
    obtain ⟨h0_59, h1_59, h2_59, h3_59, hg_59, hz_59, hpr_59, bo_59, ba_59, bb_59, bn_59, bk_59, bw_59, b_y_59, bh_59⟩ := id H_59
    show Z _ _ _ _ _ _ _ _ 62 _ []
    refine z_aload_n C d_R_readExponent_62 rfl rfl ?_
    refine z_iconst (v := nI 0) C d_R_readExponent_63 (by decide) ?_
    refine z_put C in_R ty_R tok_R nm_R h0_59 rfl 10 (by decide) fl_R_99 rfl rfl rfl (rfl) (rfl) (Nat.le_of_ble_eq_true rfl) d_R_readExponent_64 ?_
    show Z _ _ _ _ _ _ _ (zU M_59 r (.inr (5, [.ref (r + 1), .ref (r + 2), .ref (r + 3), .int (nI n), .ref p, .ref (p + 2), .int (nI ((rnum cs 12 2 0 (i + 1)).2)), .int (nI (if (rnum cs 12 2 0 (i + 1)).2 = (i + 1) then 1 else k)), .int (nI w), .int (nI y), .int (nI 0)]))) _ _ _
    have hoGend : zoutR M_59 (zU M_59 r (.inr (5, [.ref (r + 1), .ref (r + 2), .ref (r + 3), .int (nI n), .ref p, .ref (p + 2), .int (nI ((rnum cs 12 2 0 (i + 1)).2)), .int (nI (if (rnum cs 12 2 0 (i + 1)).2 = (i + 1) then 1 else k)), .int (nI w), .int (nI y), .int (nI 0)]))) r (r + 4) := (fun q hq => (zU_ne (by omega)))
    have Gend : zrd E (zU M_59 r (.inr (5, [.ref (r + 1), .ref (r + 2), .ref (r + 3), .int (nI n), .ref p, .ref (p + 2), .int (nI ((rnum cs 12 2 0 (i + 1)).2)), .int (nI (if (rnum cs 12 2 0 (i + 1)).2 = (i + 1) then 1 else k)), .int (nI w), .int (nI y), .int (nI 0)]))) r p cs (o, a, b, n, (rnum cs 12 2 0 (i + 1)).2, (if (rnum cs 12 2 0 (i + 1)).2 = (i + 1) then 1 else k), w, y, 0, (addp ps (5, if True then -((rnum cs 12 2 0 (i + 1)).1 : Int) else ((rnum cs 12 2 0 (i + 1)).1 : Int))), t) := ⟨zU_eq, (zU_ne (by omega)).trans h1_59, (zU_ne (by omega)).trans h2_59, (zU_ne (by omega)).trans h3_59, zpg_oR hoGend hg_59 (by omega), zln_oR hoGend hz_59 (by omega), hpr_59, bo_59, ba_59, bb_59, by omega, by omega, by omega, by omega, by omega⟩
    have eend : r_ex cs (o, a, b, n, i, k, w, y, h, ps, t) = (o, a, b, n, (rnum cs 12 2 0 (i + 1)).2, (if (rnum cs 12 2 0 (i + 1)).2 = (i + 1) then 1 else k), w, y, 0, (addp ps (5, if True then -((rnum cs 12 2 0 (i + 1)).1 : Int) else ((rnum cs 12 2 0 (i + 1)).1 : Int))), t) := if_pos c_13
    exact z_vret C ⟨rfl, rfl, (zoutR_tr (zoutR_tr (zoutR_tr (zoutR_tr (zoutR_tr zoutR_rf (zoutR_w (show zoutR M (zU M r (.inr (5, [.ref (r + 1), .ref (r + 2), .ref (r + 3), .int (nI n), .ref p, .ref (p + 2), .int (nI (i + 1)), .int (nI k), .int (nI w), .int (nI y), .int (nI h)]))) r (r + 4) from (fun q hq => (zU_ne (by omega)))) (by omega) (by omega))) hfr_40) (zoutR_w (show zoutR M_40 M_40 r (r + 4) from zoutR_rf) (by omega) (by omega))) hfr_59) (zoutR_w (show zoutR M_59 (zU M_59 r (.inr (5, [.ref (r + 1), .ref (r + 2), .ref (r + 3), .int (nI n), .ref p, .ref (p + 2), .int (nI ((rnum cs 12 2 0 (i + 1)).2)), .int (nI (if (rnum cs 12 2 0 (i + 1)).2 = (i + 1) then 1 else k)), .int (nI w), .int (nI y), .int (nI 0)]))) r (r + 4) from (fun q hq => (zU_ne (by omega)))) (by omega) (by omega))), by rw [eend]; exact Gend⟩ d_R_readExponent_67
