set_option maxHeartbeats 4000000 in
/-- Workshop.putInto -/
theorem w_putInto (E : zE) (l : Launch) (sz : Nat) (M : zM) {w b r kb kr k5 k7 H K : Nat} {B Pr P5 P7 : PS} (hw0 : M w = some (.inr (9, [.ref (w + 1), .ref (w + 3), .ref (w + 5), .ref (w + 7), .ref (w + 9), .ref (w + 11), .ref (w + 13)]))) (hb : zp E M b 13 kb B) (hr : zp E M r 25 kr Pr) (h5 : zp E M (w + 5) 25 k5 P5) (h7 : zp E M (w + 7) 25 k7 P7) {q2 kn2 kd2 : Nat} {N2 D2 : PS} (h2 : zf E M q2 kn2 kd2 N2 D2) (a2 : q2 + 5 ≤ w ∨ w + 15 ≤ q2) (e1 : r = w + 1 ∨ r = w + 3) (e2 : b + 2 ≤ w ∨ w + 15 ≤ b) (hHK : H * K ≤ 12) (hH : H < 1000) (hp : ∀ i, K < i → N2 i = 0) (hq : ∀ i, K < i → D2 i = 0) : zMet E l y_W_putInto c_W_putInto 6 none { frames := 2, cells := 0, slots := 0, locals := 46 } 0 0 [.ref w, .ref b, .int (nI H), .ref q2, .ref r] sz M (fun v s M' => none = v ∧ sz = s ∧ (∃ k', zp E M' r 25 k' (hom H B N2 D2)) ∧ (∃ k' P', zp E M' (w + 5) 25 k' P') ∧ (∃ k' P', zp E M' (w + 7) 25 k' P') ∧ ∀ q, q ≠ r → q ≠ r + 1 → (q < w + 5 ∨ w + 9 ≤ q) → M' q = M q) := by
  refine zMet.ofZ (by decide) (Nat.le_of_ble_eq_true rfl) ?_
  intro X hl hini C
  have loop : ∀ (j : Nat) (M1 : zM) (k1 k2 k3 : Nat) (P2 : PS), j ≤ H → M1 w = some (.inr (9, [.ref (w + 1), .ref (w + 3), .ref (w + 5), .ref (w + 7), .ref (w + 9), .ref (w + 11), .ref (w + 13)])) → zp E M1 b 13 kb B → zf E M1 q2 kn2 kd2 N2 D2 → zp E M1 r 25 k1 (hom (H - j) (fun x => B (j + x)) N2 D2) → zp E M1 (w + 5) 25 k2 P2 → zp E M1 (w + 7) 25 k3 (ps_pow D2 (H - j)) → (∀ q, q ≠ r → q ≠ r + 1 → (q < w + 5 ∨ w + 9 ≤ q) → M1 q = M q) → Z X E 6 (zQ X E 0 0 (fun v s M' => none = v ∧ sz = s ∧ (∃ k', zp E M' r 25 k' (hom H B N2 D2)) ∧ (∃ k' P', zp E M' (w + 5) 25 k' P') ∧ (∃ k' P', zp E M' (w + 7) 25 k' P') ∧ ∀ q, q ≠ r → q ≠ r + 1 → (q < w + 5 ∨ w + 9 ≤ q) → M' q = M q)) 0 0 sz M1 23 [(0, .ref w), (1, .ref b), (2, .int (nI H)), (3, .ref q2), (4, .ref r), (5, .int (tI j))] [] := by
    intro j
    induction j with
    | zero =>
      intro M1 k1 k2 k3 P2 hj g0 gb gf gr g5 g7 hfr
      refine z_iload C d_W_putInto_23 rfl ?_
      refine z_if_lt (tgt := 97) C d_W_putInto_25 (by decide) (fun _ => ?_) (fun c_25 => absurd (by decide) c_25)
      exact z_vret C ⟨rfl, rfl, ⟨_, by rw [Nat.sub_zero, show (fun x => B (0 + x)) = B by funext x; rw [Nat.zero_add]] at gr; exact gr⟩, ⟨_, _, g5⟩, ⟨_, _, g7⟩, hfr⟩ d_W_putInto_97
    | succ j ih =>
      intro M1 k1 k2 k3 P2 hj g0 gb gf gr g5 g7 hfr
      have bb := zp_lt gf.2.1
      have bd := zp_lt gf.2.2
      have z1 := zp_le gr (hom_z hp hq hHK (by omega)).1
      have z2 := zp_le g7 (hom_z (f := B) hp hq hHK (by omega)).2
      have st := hom_stepR (B := B) (p := N2) (q := D2) (H := H) (k := H - (j + 1)) (by omega)
      rw [show H - (H - (j + 1)) = j + 1 by omega, show H - (j + 1) + 1 = H - j by omega, show H - (H - j) = j by omega] at st
      refine z_iload C d_W_putInto_23 rfl ?_
      refine z_if_lt (tgt := 97) C d_W_putInto_25 (by decide) (fun c_25 => absurd c_25 (by rw [tI_s]; exact nI_pos (by omega))) (fun _ => ?_)
      refine z_aload_n C d_W_putInto_28 rfl rfl ?_
      refine z_get C in_W g0 rfl 2 (by decide) fl_W_23 rfl rfl d_W_putInto_29 ?_
      refine z_aload C d_W_putInto_32 rfl ?_
      refine z_aload_n C d_W_putInto_34 rfl rfl ?_
      refine z_getN C in_F gf.1 rfl 0 (by decide) fl_W_38 rfl rfl d_W_putInto_35 ?_
      refine z_callV (rest := []) (n := 2) (As := [.ref r, .ref (q2 + 1)]) C (p_setProduct E X.2.1 sz _ g5 gr gf.2.1 (by omega) (by omega) (by omega)) ⟨z_cb C k_P_setProduct ml_W_42 ii_P rfl rfl (by decide +kernel) ⟨by decide, by decide⟩, C.2.2.2.2.1 _ im_P_setProduct, C.2.2.2.2.1 _ se_P_setProduct⟩ (zp_c0 g5) rfl rfl rfl (Nat.le_of_ble_eq_true rfl) d_W_putInto_38 ⟨by decide, by decide⟩ ?_
      intro v_38 s_38 M_38 hp_38
      obtain ⟨rfl, rfl, ⟨k_38, hn_38⟩, ho_38⟩ := hp_38
      have hc0_38 := (ho_38 _ (by omega) (by omega)).trans g0
      have hc1_38 := (ho_38 _ (by omega) (by omega)).trans gf.1
      have hq0_38 := zp_o ho_38 gb (by omega)
      have hq1_38 := zp_o ho_38 gr (by omega)
      have hq3_38 := zp_o ho_38 g7 (by omega)
      have hq4_38 := zp_o ho_38 gf.2.1 (by omega)
      have hq5_38 := zp_o ho_38 gf.2.2 (by omega)
      show Z _ _ _ _ _ _ _ _ 41 _ []
      refine z_aload C d_W_putInto_41 rfl ?_
      refine z_aload_n C d_W_putInto_43 rfl rfl ?_
      refine z_get C in_W hc0_38 rfl 2 (by decide) fl_W_23 rfl rfl d_W_putInto_44 ?_
      refine z_callV (rest := []) (n := 1) (As := [.ref (w + 5)]) C (p_copy E X.2.1 sz _ hq1_38 hn_38 (by omega) (by have := zp_lt hn_38; omega)) ⟨z_cb C k_P_copy ml_W_54 ii_P rfl rfl (by decide +kernel) ⟨by decide, by decide⟩, C.2.2.2.2.1 _ im_P_copy, C.2.2.2.2.1 _ se_P_copy⟩ (zp_c0 hq1_38) rfl rfl rfl (Nat.le_of_ble_eq_true rfl) d_W_putInto_47 ⟨by decide, by decide⟩ ?_
      intro v_47 s_47 M_47 hp_47
      obtain ⟨rfl, rfl, hn_47, ho_47⟩ := hp_47
      have hc0_47 := (ho_47 _ (by omega) (by omega)).trans hc0_38
      have hc1_47 := (ho_47 _ (by omega) (by omega)).trans hc1_38
      have hq0_47 := zp_o ho_47 hq0_38 (by omega)
      have hq2_47 := zp_o ho_47 hn_38 (by omega)
      have hq3_47 := zp_o ho_47 hq3_38 (by omega)
      have hq4_47 := zp_o ho_47 hq4_38 (by omega)
      have hq5_47 := zp_o ho_47 hq5_38 (by omega)
      show Z _ _ _ _ _ _ _ _ 50 _ []
      refine z_aload_n C d_W_putInto_50 rfl rfl ?_
      refine z_get C in_W hc0_47 rfl 2 (by decide) fl_W_23 rfl rfl d_W_putInto_51 ?_
      refine z_aload_n C d_W_putInto_54 rfl rfl ?_
      refine z_get C in_W hc0_47 rfl 3 (by decide) fl_W_26 rfl rfl d_W_putInto_55 ?_
      refine z_aload_n C d_W_putInto_58 rfl rfl ?_
      refine z_getN C in_F hc1_47 rfl 1 (by decide) fl_W_41 rfl rfl d_W_putInto_59 ?_
      refine z_callV (rest := []) (n := 2) (As := [.ref (w + 7), .ref (q2 + 3)]) C (p_setProduct E X.2.1 sz _ hq2_47 hq3_47 hq5_47 (by omega) (by omega) (by omega)) ⟨z_cb C k_P_setProduct ml_W_42 ii_P rfl rfl (by decide +kernel) ⟨by decide, by decide⟩, C.2.2.2.2.1 _ im_P_setProduct, C.2.2.2.2.1 _ se_P_setProduct⟩ (zp_c0 hq2_47) rfl rfl rfl (Nat.le_of_ble_eq_true rfl) d_W_putInto_62 ⟨by decide, by decide⟩ ?_
      intro v_62 s_62 M_62 hp_62
      obtain ⟨rfl, rfl, ⟨k_62, hn_62⟩, ho_62⟩ := hp_62
      have hc0_62 := (ho_62 _ (by omega) (by omega)).trans hc0_47
      have hc1_62 := (ho_62 _ (by omega) (by omega)).trans hc1_47
      have hq0_62 := zp_o ho_62 hq0_47 (by omega)
      have hq1_62 := zp_o ho_62 hn_47 (by omega)
      have hq3_62 := zp_o ho_62 hq3_47 (by omega)
      have hq4_62 := zp_o ho_62 hq4_47 (by omega)
      have hq5_62 := zp_o ho_62 hq5_47 (by omega)
      show Z _ _ _ _ _ _ _ _ 65 _ []
      refine z_aload_n C d_W_putInto_65 rfl rfl ?_
      refine z_get C in_W hc0_62 rfl 3 (by decide) fl_W_26 rfl rfl d_W_putInto_66 ?_
      refine z_aload_n C d_W_putInto_69 rfl rfl ?_
      refine z_get C in_W hc0_62 rfl 2 (by decide) fl_W_23 rfl rfl d_W_putInto_70 ?_
      refine z_callV (rest := []) (n := 1) (As := [.ref (w + 5)]) C (p_copy E X.2.1 sz _ hq3_62 hn_62 (by omega) (by have := zp_lt hn_62; omega)) ⟨z_cb C k_P_copy ml_W_54 ii_P rfl rfl (by decide +kernel) ⟨by decide, by decide⟩, C.2.2.2.2.1 _ im_P_copy, C.2.2.2.2.1 _ se_P_copy⟩ (zp_c0 hq3_62) rfl rfl rfl (Nat.le_of_ble_eq_true rfl) d_W_putInto_73 ⟨by decide, by decide⟩ ?_
      intro v_73 s_73 M_73 hp_73
      obtain ⟨rfl, rfl, hn_73, ho_73⟩ := hp_73
      have hc0_73 := (ho_73 _ (by omega) (by omega)).trans hc0_62
      have hc1_73 := (ho_73 _ (by omega) (by omega)).trans hc1_62
      have hq0_73 := zp_o ho_73 hq0_62 (by omega)
      have hq1_73 := zp_o ho_73 hq1_62 (by omega)
      have hq2_73 := zp_o ho_73 hn_62 (by omega)
      have hq4_73 := zp_o ho_73 hq4_62 (by omega)
      have hq5_73 := zp_o ho_73 hq5_62 (by omega)
      show Z _ _ _ _ _ _ _ _ 76 _ []
      refine z_aload C d_W_putInto_76 rfl ?_
      refine z_aload_n C d_W_putInto_78 rfl rfl ?_
      refine z_get C in_W hc0_73 rfl 3 (by decide) fl_W_26 rfl rfl d_W_putInto_79 ?_
      refine z_aload_n C d_W_putInto_82 rfl rfl ?_
      refine z_iload C d_W_putInto_83 rfl ?_
      refine z_top (y := nI j) (tI_s j) ?_
      refine z_callV (rest := [.ref (w + 7), .ref r]) (n := 1) (As := [.int (nI j)]) C (p_get E X.2.1 sz _ j (by omega) hq0_73) ⟨z_cb C k_P_get ml_W_86 ii_P rfl rfl (by decide +kernel) ⟨by decide, by decide⟩, C.2.2.2.2.1 _ im_P_get, C.2.2.2.2.1 _ se_P_get⟩ (zp_c0 hq0_73) rfl rfl rfl (Nat.le_of_ble_eq_true rfl) d_W_putInto_85 ⟨by decide, by decide⟩ ?_
      intro v_85 s_85 M_85 hp_85
      obtain ⟨rfl, rfl, rfl⟩ := hp_85
      show Z _ _ _ _ _ _ _ _ 88 _ [.int (fI (B j)), .ref (w + 7), .ref r]
      refine z_callV (rest := []) (n := 2) (As := [.ref (w + 7), .int (fI (B j))]) C (p_addMultiple E X.2.1 sz _ hq1_73 hn_73 (by omega) (by have := zp_lt hn_73; omega) (B j)) ⟨z_cb C k_P_addMultiple ml_W_46 ii_P rfl rfl (by decide +kernel) ⟨by decide, by decide⟩, C.2.2.2.2.1 _ im_P_addMultiple, C.2.2.2.2.1 _ se_P_addMultiple⟩ (zp_c0 hq1_73) rfl rfl rfl (Nat.le_of_ble_eq_true rfl) d_W_putInto_88 ⟨by decide, by decide⟩ ?_
      intro v_88 s_88 M_88 hp_88
      obtain ⟨rfl, rfl, ⟨k_88, hn_88⟩, ho_88⟩ := hp_88
      have hc0_88 := (ho_88 _ (by omega) (by omega)).trans hc0_73
      have hc1_88 := (ho_88 _ (by omega) (by omega)).trans hc1_73
      have hq0_88 := zp_o ho_88 hq0_73 (by omega)
      have hq2_88 := zp_o ho_88 hq2_73 (by omega)
      have hq3_88 := zp_o ho_88 hn_73 (by omega)
      have hq4_88 := zp_o ho_88 hq4_73 (by omega)
      have hq5_88 := zp_o ho_88 hq5_73 (by omega)
      show Z _ _ _ _ _ _ _ _ 91 _ []
      refine z_iinc (v := tI j) (L' := [(0, .ref w), (1, .ref b), (2, .int (nI H)), (3, .ref q2), (4, .ref r), (5, .int (tI j))]) C d_W_putInto_91 rfl (tI_dec j) (by decide) rfl ?_
      refine z_goto (tgt := 23) C d_W_putInto_94 (by decide) ?_
      rw [st] at hn_88
      have e7 : ps_mul (ps_pow D2 (H - (j + 1))) D2 = ps_pow D2 (H - j) := by
        rw [show H - j = (H - (j + 1)) + 1 by omega]; rfl
      rw [e7] at hq3_88
      exact ih _ _ _ _ _ (by omega) hc0_88 hq0_88 ⟨hc1_88, hq4_88, hq5_88⟩ hn_88 hq2_88 hq3_88 (fun q q1 q2 q3 => (ho_88 q q1 q2).trans ((ho_73 q (by omega) (by omega)).trans ((ho_62 q (by omega) (by omega)).trans ((ho_47 q q1 q2).trans ((ho_38 q (by omega) (by omega)).trans (hfr q q1 q2 q3))))))
  show Z X E 6 _ 0 0 sz M 0 [(0, .ref w), (1, .ref b), (2, .int (nI H)), (3, .ref q2), (4, .ref r)] []
  refine z_aload C d_W_putInto_0 rfl ?_
  refine z_aload_n C d_W_putInto_2 rfl rfl ?_
  refine z_iload_n C d_W_putInto_3 rfl rfl ?_
  refine z_callV (rest := [.ref r]) (n := 1) (As := [.int (nI H)]) C (p_get E X.2.1 sz _ H (by omega) hb) ⟨z_cb C k_P_get ml_W_86 ii_P rfl rfl (by decide +kernel) ⟨by decide, by decide⟩, C.2.2.2.2.1 _ im_P_get, C.2.2.2.2.1 _ se_P_get⟩ (zp_c0 hb) rfl rfl rfl (Nat.le_of_ble_eq_true rfl) d_W_putInto_4 ⟨by decide, by decide⟩ ?_
  intro v_4 s_4 M_4 hp_4
  obtain ⟨rfl, rfl, rfl⟩ := hp_4
  show Z _ _ _ _ _ _ _ _ 7 _ [.int (fI (B H)), .ref r]
  refine z_callV (rest := []) (n := 1) (As := [.int (fI (B H))]) C (p_setConstant E X.2.1 sz _ hr (by omega) (B H)) ⟨z_cb C k_P_setConstant ml_W_78 ii_P rfl rfl (by decide +kernel) ⟨by decide, by decide⟩, C.2.2.2.2.1 _ im_P_setConstant, C.2.2.2.2.1 _ se_P_setConstant⟩ (zp_c0 hr) rfl rfl rfl (Nat.le_of_ble_eq_true rfl) d_W_putInto_7 ⟨by decide, by decide⟩ ?_
  intro v_7 s_7 M_7 hp_7
  obtain ⟨rfl, rfl, hn_7, ho_7⟩ := hp_7
  have hc0_7 := (ho_7 _ (by omega) (by omega)).trans hw0
  have hc1_7 := (ho_7 _ (by omega) (by omega)).trans h2.1
  have hq0_7 := zp_o ho_7 hb (by omega)
  have hq2_7 := zp_o ho_7 h5 (by omega)
  have hq3_7 := zp_o ho_7 h7 (by omega)
  have hq4_7 := zp_o ho_7 h2.2.1 (by omega)
  have hq5_7 := zp_o ho_7 h2.2.2 (by omega)
  show Z _ _ _ _ _ _ _ _ 10 _ []
  refine z_aload_n C d_W_putInto_10 rfl rfl ?_
  refine z_get C in_W hc0_7 rfl 3 (by decide) fl_W_26 rfl rfl d_W_putInto_11 ?_
  refine z_iconst (v := fI 1) C d_W_putInto_14 (by decide) ?_
  refine z_callV (rest := []) (n := 1) (As := [.int (fI 1)]) C (p_setConstant E X.2.1 sz _ hq3_7 (by omega) 1) ⟨z_cb C k_P_setConstant ml_W_78 ii_P rfl rfl (by decide +kernel) ⟨by decide, by decide⟩, C.2.2.2.2.1 _ im_P_setConstant, C.2.2.2.2.1 _ se_P_setConstant⟩ (zp_c0 hq3_7) rfl rfl rfl (Nat.le_of_ble_eq_true rfl) d_W_putInto_15 ⟨by decide, by decide⟩ ?_
  intro v_15 s_15 M_15 hp_15
  obtain ⟨rfl, rfl, hn_15, ho_15⟩ := hp_15
  have hc0_15 := (ho_15 _ (by omega) (by omega)).trans hc0_7
  have hc1_15 := (ho_15 _ (by omega) (by omega)).trans hc1_7
  have hq0_15 := zp_o ho_15 hq0_7 (by omega)
  have hq1_15 := zp_o ho_15 hn_7 (by omega)
  have hq2_15 := zp_o ho_15 hq2_7 (by omega)
  have hq4_15 := zp_o ho_15 hq4_7 (by omega)
  have hq5_15 := zp_o ho_15 hq5_7 (by omega)
  show Z _ _ _ _ _ _ _ _ 18 _ []
  refine z_iload_n C d_W_putInto_18 rfl rfl ?_
  refine z_iconst (v := 1) C d_W_putInto_19 (by decide) ?_
  refine z_isub C d_W_putInto_20 ?_
  refine z_top (y := tI H) (rfl) ?_
  refine z_istore (L' := [(0, .ref w), (1, .ref b), (2, .int (nI H)), (3, .ref q2), (4, .ref r), (5, .int (tI H))]) C d_W_putInto_21 (by decide) rfl ?_
  exact loop H _ _ _ _ _ (Nat.le_refl H) hc0_15 hq0_15 ⟨hc1_15, hq4_15, hq5_15⟩ (by rw [Nat.sub_self]; exact hq1_15) hq2_15 (by rw [Nat.sub_self]; exact hn_15) (fun q q1 q2 q3 => (ho_15 q (by omega) (by omega)).trans ((ho_7 q q1 q2).trans (rfl)))
set_option maxHeartbeats 4000000 in
/-- Workshop.compose -/
theorem w_compose (E : zE) (l : Launch) (sz : Nat) (M : zM) {w kw1 kw3 : Nat} {Pw1 Pw3 : PS} (hw : zsh E M w kw1 kw3 Pw1 Pw3) {q1 kn1 kd1 : Nat} {N1 D1 : PS} (h1 : zf E M q1 kn1 kd1 N1 D1) (a1 : q1 + 5 ≤ w ∨ w + 15 ≤ q1){q2 kn2 kd2 : Nat} {N2 D2 : PS} (h2 : zf E M q2 kn2 kd2 N2 D2) (a2 : q2 + 5 ≤ w ∨ w + 15 ≤ q2) (hd1 : 1 ≤ kd1) (hd2 : 1 ≤ kd2) : zMet E l y_W_compose c_W_compose 4 (some .int) { frames := 3, cells := 0, slots := 0, locals := 71 } 0 0 [.ref w, .ref q1, .ref q2] sz M (fun v s M' => (12 < (max kn1 kd1 - 1) * (max kn2 kd2 - 1) ∧ some (.int (-6)) = v ∧ sz = s ∧ M = M') ∨ ((max kn1 kd1 - 1) * (max kn2 kd2 - 1) ≤ 12 ∧ sz = s ∧ zoutR M M' (w + 1) (w + 15) ∧ ∃ x y, zsh E M' w x y (hom (max kn1 kd1 - 1) N1 N2 D2) (hom (max kn1 kd1 - 1) D1 N2 D2) ∧ ((y = 0 ∧ some (.int (-5)) = v) ∨ (y ≠ 0 ∧ some (.int 0) = v)))) := by
  obtain ⟨hw0, hw1, hw3, ⟨kw5, Pw5, hw5⟩, ⟨kw7, Pw7, hw7⟩, ⟨kw9, Pw9, hw9⟩, ⟨kw11, Pw11, hw11⟩, ⟨kw13, Pw13, hw13⟩⟩ := id hw
  have b1 := zp_lt h1.2.1
  have b2 := zp_lt h1.2.2
  have b3 := zp_lt h2.2.1
  have b4 := zp_lt h2.2.2
  obtain ⟨H1, hH1⟩ : ∃ H, H = max kn1 kd1 - 1 := ⟨_, rfl⟩
  obtain ⟨H2, hH2⟩ : ∃ H, H = max kn2 kd2 - 1 := ⟨_, rfl⟩
  have e1 : max kn1 kd1 = H1 + 1 := by omega
  have e2 : max kn2 kd2 = H2 + 1 := by omega
  rw [← hH1, ← hH2]
  have hp : ∀ i, H2 < i → N2 i = 0 := fun i hi => (zp_pol h2.2.1).1 i (by omega)
  have hq : ∀ i, H2 < i → D2 i = 0 := fun i hi => (zp_pol h2.2.2).1 i (by omega)
  refine zMet.ofZ (by decide) (Nat.le_of_ble_eq_true rfl) ?_
  intro X hl hini C
  show Z X E 4 _ 0 0 sz M 0 [(0, .ref w), (1, .ref q1), (2, .ref q2)] []
  refine z_aload_n C d_W_compose_0 rfl rfl ?_
  refine z_callV (rest := []) (n := 0) (As := []) C (f_height E X.2.1 sz _ h1) ⟨z_cb C k_F_height ml_W_70 ii_F rfl rfl (by decide +kernel) ⟨by decide, by decide⟩, C.2.2.2.2.1 _ im_F_height, C.2.2.2.2.1 _ se_F_height⟩ h1.1 rfl rfl rfl (Nat.le_of_ble_eq_true rfl) d_W_compose_1 ⟨by decide, by decide⟩ ?_
  intro v_1 s_1 M_1 hp_1
  obtain ⟨rfl, rfl, rfl⟩ := hp_1
  show Z _ _ _ _ _ _ _ _ 4 _ [.int (tI (max kn1 kd1))]
  refine z_top (y := nI H1) (by rw [e1, tI_s]) ?_
  refine z_istore_n (L' := [(0, .ref w), (1, .ref q1), (2, .ref q2), (3, .int (nI H1))]) C d_W_compose_4 rfl (by decide) rfl ?_
  refine z_iload_n C d_W_compose_5 rfl rfl ?_
  refine z_aload_n C d_W_compose_6 rfl rfl ?_
  refine z_callV (rest := [.int (nI H1)]) (n := 0) (As := []) C (f_height E X.2.1 sz _ h2) ⟨z_cb C k_F_height ml_W_70 ii_F rfl rfl (by decide +kernel) ⟨by decide, by decide⟩, C.2.2.2.2.1 _ im_F_height, C.2.2.2.2.1 _ se_F_height⟩ h2.1 rfl rfl rfl (Nat.le_of_ble_eq_true rfl) d_W_compose_7 ⟨by decide, by decide⟩ ?_
  intro v_7 s_7 M_7 hp_7
  obtain ⟨rfl, rfl, rfl⟩ := hp_7
  show Z _ _ _ _ _ _ _ _ 10 _ [.int (tI (max kn2 kd2)), .int (nI H1)]
  refine z_top (y := nI H2) (by rw [e2, tI_s]) ?_
  refine z_imul C d_W_compose_10 ?_
  refine z_top (y := nI (H1 * H2)) (pk_mul H1 H2) ?_
  refine z_bipush (v := 12) C d_W_compose_11 (by decide) ?_
  refine z_icmp_le (tgt := 19) C d_W_compose_13 (by decide) (fun c13 => ?_) (fun c13 => ?_)
  · have c13 : H1 * H2 ≤ 12 := by
      rcases Nat.lt_or_ge 12 (H1 * H2) with q | q
      · exact absurd c13 (by show ¬ nI (H1 * H2) ≤ nI 12; exact nI_ge q (by have : H1 * H2 ≤ 24 * 24 := Nat.mul_le_mul (by omega) (by omega); omega))
      · exact q
    refine z_aload_n C d_W_compose_19 rfl rfl ?_
    refine z_aload_n C d_W_compose_20 rfl rfl ?_
    refine z_getN C in_F h1.1 rfl 0 (by decide) fl_W_38 rfl rfl d_W_compose_21 ?_
    refine z_iload_n C d_W_compose_24 rfl rfl ?_
    refine z_aload_n C d_W_compose_25 rfl rfl ?_
    refine z_aload_n C d_W_compose_26 rfl rfl ?_
    refine z_get C in_W hw0 rfl 0 (by decide) fl_W_16 rfl rfl d_W_compose_27 ?_
    refine z_callV (rest := []) (n := 4) (As := [.ref (q1 + 1), .int (nI H1), .ref q2, .ref (w + 1)]) C (w_putInto (H := H1) (K := H2) E X.2.1 sz _ hw0 h1.2.1 hw1 hw5 hw7 ⟨h2.1, h2.2.1, h2.2.2⟩ a2 (by omega) (by omega) c13 (by omega) hp hq) ⟨z_cb C k_W_putInto ml_W_81 ii_W rfl rfl (by decide +kernel) ⟨by decide, by decide⟩, C.2.2.2.2.1 _ im_W_putInto, C.2.2.2.2.1 _ se_W_putInto⟩ hw0 rfl rfl rfl (Nat.le_of_ble_eq_true rfl) d_W_compose_30 ⟨by decide, by decide⟩ ?_
    intro v_30 s_30 M_30 hp_30
    obtain ⟨rfl, rfl, ⟨k_30, hn_30⟩, ⟨k5_30, P5_30, h5_30⟩, ⟨k7_30, P7_30, h7_30⟩, hf_30⟩ := hp_30
    have hc0_30 := (hf_30 _ (by omega) (by omega) (by omega)).trans hw0
    have hc1_30 := (hf_30 _ (by omega) (by omega) (by omega)).trans h1.1
    have hc2_30 := (hf_30 _ (by omega) (by omega) (by omega)).trans h2.1
    have hq1_30 := zp_kept hw3 (hf_30 _ (by omega) (by omega) (by omega)) (hf_30 _ (by omega) (by omega) (by omega))
    have hq4_30 := zp_kept hw9 (hf_30 _ (by omega) (by omega) (by omega)) (hf_30 _ (by omega) (by omega) (by omega))
    have hq5_30 := zp_kept hw11 (hf_30 _ (by omega) (by omega) (by omega)) (hf_30 _ (by omega) (by omega) (by omega))
    have hq6_30 := zp_kept hw13 (hf_30 _ (by omega) (by omega) (by omega)) (hf_30 _ (by omega) (by omega) (by omega))
    have hq7_30 := zp_kept h1.2.1 (hf_30 _ (by omega) (by omega) (by omega)) (hf_30 _ (by omega) (by omega) (by omega))
    have hq8_30 := zp_kept h1.2.2 (hf_30 _ (by omega) (by omega) (by omega)) (hf_30 _ (by omega) (by omega) (by omega))
    have hq9_30 := zp_kept h2.2.1 (hf_30 _ (by omega) (by omega) (by omega)) (hf_30 _ (by omega) (by omega) (by omega))
    have hq10_30 := zp_kept h2.2.2 (hf_30 _ (by omega) (by omega) (by omega)) (hf_30 _ (by omega) (by omega) (by omega))
    have hR_30 : zoutR M M_30 (w + 1) (w + 15) := fun q hq => hf_30 q (by omega) (by omega) (by omega)
    show Z _ _ _ _ _ _ _ _ 33 _ []
    refine z_aload_n C d_W_compose_33 rfl rfl ?_
    refine z_aload_n C d_W_compose_34 rfl rfl ?_
    refine z_getN C in_F hc1_30 rfl 1 (by decide) fl_W_41 rfl rfl d_W_compose_35 ?_
    refine z_iload_n C d_W_compose_38 rfl rfl ?_
    refine z_aload_n C d_W_compose_39 rfl rfl ?_
    refine z_aload_n C d_W_compose_40 rfl rfl ?_
    refine z_get C in_W hc0_30 rfl 1 (by decide) fl_W_20 rfl rfl d_W_compose_41 ?_
    refine z_callV (rest := []) (n := 4) (As := [.ref (q1 + 3), .int (nI H1), .ref q2, .ref (w + 3)]) C (w_putInto (H := H1) (K := H2) E X.2.1 sz _ hc0_30 hq8_30 hq1_30 h5_30 h7_30 ⟨hc2_30, hq9_30, hq10_30⟩ a2 (by omega) (by omega) c13 (by omega) hp hq) ⟨z_cb C k_W_putInto ml_W_81 ii_W rfl rfl (by decide +kernel) ⟨by decide, by decide⟩, C.2.2.2.2.1 _ im_W_putInto, C.2.2.2.2.1 _ se_W_putInto⟩ hc0_30 rfl rfl rfl (Nat.le_of_ble_eq_true rfl) d_W_compose_44 ⟨by decide, by decide⟩ ?_
    intro v_44 s_44 M_44 hp_44
    obtain ⟨rfl, rfl, ⟨k_44, hn_44⟩, ⟨k5_44, P5_44, h5_44⟩, ⟨k7_44, P7_44, h7_44⟩, hf_44⟩ := hp_44
    have hc0_44 := (hf_44 _ (by omega) (by omega) (by omega)).trans hc0_30
    have hc1_44 := (hf_44 _ (by omega) (by omega) (by omega)).trans hc1_30
    have hc2_44 := (hf_44 _ (by omega) (by omega) (by omega)).trans hc2_30
    have hq0_44 := zp_kept hn_30 (hf_44 _ (by omega) (by omega) (by omega)) (hf_44 _ (by omega) (by omega) (by omega))
    have hq4_44 := zp_kept hq4_30 (hf_44 _ (by omega) (by omega) (by omega)) (hf_44 _ (by omega) (by omega) (by omega))
    have hq5_44 := zp_kept hq5_30 (hf_44 _ (by omega) (by omega) (by omega)) (hf_44 _ (by omega) (by omega) (by omega))
    have hq6_44 := zp_kept hq6_30 (hf_44 _ (by omega) (by omega) (by omega)) (hf_44 _ (by omega) (by omega) (by omega))
    have hq7_44 := zp_kept hq7_30 (hf_44 _ (by omega) (by omega) (by omega)) (hf_44 _ (by omega) (by omega) (by omega))
    have hq8_44 := zp_kept hq8_30 (hf_44 _ (by omega) (by omega) (by omega)) (hf_44 _ (by omega) (by omega) (by omega))
    have hq9_44 := zp_kept hq9_30 (hf_44 _ (by omega) (by omega) (by omega)) (hf_44 _ (by omega) (by omega) (by omega))
    have hq10_44 := zp_kept hq10_30 (hf_44 _ (by omega) (by omega) (by omega)) (hf_44 _ (by omega) (by omega) (by omega))
    have hR_44 : zoutR M_30 M_44 (w + 1) (w + 15) := fun q hq => hf_44 q (by omega) (by omega) (by omega)
    show Z _ _ _ _ _ _ _ _ 47 _ []
    refine z_aload_n C d_W_compose_47 rfl rfl ?_
    refine z_get C in_W hc0_44 rfl 1 (by decide) fl_W_20 rfl rfl d_W_compose_48 ?_
    refine z_callV (rest := []) (n := 0) (As := []) C (p_isZero E X.2.1 sz _ hn_44) ⟨z_cb C k_P_isZero ml_W_85 ii_P rfl rfl (by decide +kernel) ⟨by decide, by decide⟩, C.2.2.2.2.1 _ im_P_isZero, C.2.2.2.2.1 _ se_P_isZero⟩ (zp_c0 hn_44) rfl rfl rfl (Nat.le_of_ble_eq_true rfl) d_W_compose_51 ⟨by decide, by decide⟩ ?_
    intro v_51 s_51 M_51 hp_51
    obtain ⟨rfl, rfl, rfl⟩ := hp_51
    show Z _ _ _ _ _ _ _ _ 54 _ [.int (if k_44 = 0 then 1 else 0)]
    refine z_if_eq (tgt := 62) C d_W_compose_54 (by decide) (fun c54 => ?_) (fun c54 => ?_)
    · have c54 : k_44 ≠ 0 := fun q => by rw [if_pos q] at c54; exact absurd c54 (by decide)
      refine z_iconst (v := 0) C d_W_compose_62 (by decide) ?_
      exact z_iret C (Or.inr ⟨c13, rfl, zoutR_tr (zoutR_tr zoutR_rf hR_30) hR_44, _, _, ⟨hc0_44, hq0_44, hn_44, ⟨_, _, h5_44⟩, ⟨_, _, h7_44⟩, ⟨_, _, hq4_44⟩, ⟨_, _, hq5_44⟩, ⟨_, _, hq6_44⟩⟩, Or.inr ⟨c54, rfl⟩⟩) d_W_compose_63
    · have c54 : k_44 = 0 := by
        by_cases q : k_44 = 0
        · exact q
        · exact absurd (if_neg q) c54
      refine z_bipush (v := -5) C d_W_compose_57 (by decide) ?_
      refine z_goto (tgt := 63) C d_W_compose_59 (by decide) ?_
      exact z_iret C (Or.inr ⟨c13, rfl, zoutR_tr (zoutR_tr zoutR_rf hR_30) hR_44, _, _, ⟨hc0_44, hq0_44, hn_44, ⟨_, _, h5_44⟩, ⟨_, _, h7_44⟩, ⟨_, _, hq4_44⟩, ⟨_, _, hq5_44⟩, ⟨_, _, hq6_44⟩⟩, Or.inl ⟨c54, rfl⟩⟩) d_W_compose_63
  · have c13 : 12 < H1 * H2 := by
      rcases Nat.lt_or_ge 12 (H1 * H2) with q | q
      · exact q
      · exact absurd (by show nI (H1 * H2) ≤ nI 12; exact nI_le q (by decide)) c13
    refine z_bipush (v := -6) C d_W_compose_16 (by decide) ?_
    exact z_iret C (Or.inl ⟨c13, rfl, rfl, rfl⟩) d_W_compose_18
