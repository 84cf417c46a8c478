set_option maxHeartbeats 4000000 in
/-- Workshop.raise -/
theorem w_raise (E : zE) (l : Launch) (sz : Nat) (M : zM) {w b r kb kr k5 t : Nat} {B Pr P5 : PS} (hw0 : M w = some (.inr (9, [.ref (w + 1), .ref (w + 3), .ref (w + 5), .ref (w + 7), .ref (w + 9), .ref (w + 11), .ref (w + 13)]))) (hb : zp E M b 13 kb B) (hr : zp E M r 25 kr Pr) (h5 : zp E M (w + 5) 25 k5 P5) (e1 : r = w + 1 ∨ r = w + 3) (e2 : b + 2 ≤ w ∨ w + 15 ≤ b) (ht : t * (kb - 1) ≤ 12) (ht2 : t < 1000) : zMet E l y_W_raise c_W_raise 5 none { frames := 2, cells := 0, slots := 0, locals := 46 } 0 0 [.ref w, .ref b, .int (nI t), .ref r] sz M (fun v s M' => none = v ∧ sz = s ∧ (∃ k', zp E M' r 25 k' (ps_pow B t)) ∧ (∃ k' P', zp E M' (w + 5) 25 k' P') ∧ ∀ q, q ≠ r → q ≠ r + 1 → q ≠ w + 5 → q ≠ w + 6 → M' q = M q) := by
  refine zMet.ofZ (by decide) (Nat.le_of_ble_eq_true rfl) ?_
  intro X hl hini C
  have loop : ∀ (m i : Nat) (M1 : zM) (k1 k2 : Nat) (P2 : PS), i ≤ t → t + 1 ≤ i + m → M1 w = some (.inr (9, [.ref (w + 1), .ref (w + 3), .ref (w + 5), .ref (w + 7), .ref (w + 9), .ref (w + 11), .ref (w + 13)])) → zp E M1 b 13 kb B → zp E M1 r 25 k1 (ps_pow B i) → zp E M1 (w + 5) 25 k2 P2 → (∀ q, q ≠ r → q ≠ r + 1 → q ≠ w + 5 → q ≠ w + 6 → M1 q = M q) → Z X E 5 (zQ X E 0 0 (fun v s M' => none = v ∧ sz = s ∧ (∃ k', zp E M' r 25 k' (ps_pow B t)) ∧ (∃ k' P', zp E M' (w + 5) 25 k' P') ∧ ∀ q, q ≠ r → q ≠ r + 1 → q ≠ w + 5 → q ≠ w + 6 → M' q = M q)) 0 0 sz M1 8 [(0, .ref w), (1, .ref b), (2, .int (nI t)), (3, .ref r), (4, .int (nI i))] [] := by
    intro m
    induction m with
    | zero => intro i M1 k1 k2 P2 h1 h2; omega
    | succ m ih =>
      intro i M1 k1 k2 P2 hi hm g0 gb gr g5 hfr
      have bb := zp_lt gb
      have z13 := pow_z (zp_pol hb).1 ht
      refine z_iload C d_W_raise_8 rfl ?_
      refine z_iload_n C d_W_raise_10 rfl rfl ?_
      refine z_icmp_ge (tgt := 37) C d_W_raise_11 (by decide) (fun c11 => ?_) (fun c11 => ?_)
      · have c11 := (nI_leI (by omega) (by omega)).mp c11
        exact z_vret C ⟨rfl, rfl, ⟨_, by rw [show i = t by omega] at gr; exact gr⟩, ⟨_, _, g5⟩, hfr⟩ d_W_raise_37
      · have c11 : i < t := Nat.not_le.mp (fun q => c11 ((nI_leI (by omega) (by omega)).mpr q))
        refine z_aload_n C d_W_raise_14 rfl rfl ?_
        refine z_get C in_W g0 rfl 2 (by decide) fl_W_23 rfl rfl d_W_raise_15 ?_
        refine z_aload_n C d_W_raise_18 rfl rfl ?_
        refine z_aload_n C d_W_raise_19 rfl rfl ?_
        refine z_callV (rest := []) (n := 2) (As := [.ref r, .ref b]) C (p_setProduct E X.2.1 sz _ g5 gr gb (by omega) (by omega) (by have := zp_le gr (z13 i (by omega)); omega)) ⟨z_cb C k_P_setProduct ml_W_42 ii_P rfl rfl (by decide +kernel) ⟨by decide, by decide⟩, C.2.2.2.2.1 _ im_P_setProduct, C.2.2.2.2.1 _ se_P_setProduct⟩ (zp_c0 g5) rfl rfl rfl (Nat.le_of_ble_eq_true rfl) d_W_raise_20 ⟨by decide, by decide⟩ ?_
        intro v_20 s_20 M_20 hp_20
        obtain ⟨rfl, rfl, ⟨k_20, hn_20⟩, ho_20⟩ := hp_20
        have hc0_20 := (ho_20 _ (by omega) (by omega)).trans g0
        have hq0_20 := zp_o ho_20 gb (by omega)
        have hq1_20 := zp_o ho_20 gr (by omega)
        show Z _ _ _ _ _ _ _ _ 23 _ []
        refine z_aload_n C d_W_raise_23 rfl rfl ?_
        refine z_aload_n C d_W_raise_24 rfl rfl ?_
        refine z_get C in_W hc0_20 rfl 2 (by decide) fl_W_23 rfl rfl d_W_raise_25 ?_
        refine z_callV (rest := []) (n := 1) (As := [.ref (w + 5)]) C (p_copy E X.2.1 sz _ hq1_20 hn_20 (by omega) (by have := zp_lt hn_20; omega)) ⟨z_cb C k_P_copy ml_W_54 ii_P rfl rfl (by decide +kernel) ⟨by decide, by decide⟩, C.2.2.2.2.1 _ im_P_copy, C.2.2.2.2.1 _ se_P_copy⟩ (zp_c0 hq1_20) rfl rfl rfl (Nat.le_of_ble_eq_true rfl) d_W_raise_28 ⟨by decide, by decide⟩ ?_
        intro v_28 s_28 M_28 hp_28
        obtain ⟨rfl, rfl, hn_28, ho_28⟩ := hp_28
        have hc0_28 := (ho_28 _ (by omega) (by omega)).trans hc0_20
        have hq0_28 := zp_o ho_28 hq0_20 (by omega)
        have hq2_28 := zp_o ho_28 hn_20 (by omega)
        show Z _ _ _ _ _ _ _ _ 31 _ []
        refine z_iinc (v := nI (i + 1)) (L' := [(0, .ref w), (1, .ref b), (2, .int (nI t)), (3, .ref r), (4, .int (nI (i + 1)))]) C d_W_raise_31 rfl (nI_1 i) (by decide) rfl ?_
        refine z_goto (tgt := 8) C d_W_raise_34 (by decide) ?_
        exact ih (i + 1) _ _ _ _ (by omega) (by omega) hc0_28 hq0_28 hn_28 hq2_28 (fun q q1 q2 q3 q4 => (ho_28 q q1 q2).trans ((ho_20 q q3 q4).trans (hfr q q1 q2 q3 q4)))
  show Z X E 5 _ 0 0 sz M 0 [(0, .ref w), (1, .ref b), (2, .int (nI t)), (3, .ref r)] []
  refine z_aload_n C d_W_raise_0 rfl rfl ?_
  refine z_iconst (v := fI 1) C d_W_raise_1 (by decide) ?_
  refine z_callV (rest := []) (n := 1) (As := [.int (fI 1)]) C (p_setConstant E X.2.1 sz _ hr (by omega) 1) ⟨z_cb C k_P_setConstant ml_W_78 ii_P rfl rfl (by decide +kernel) ⟨by decide, by decide⟩, C.2.2.2.2.1 _ im_P_setConstant, C.2.2.2.2.1 _ se_P_setConstant⟩ (zp_c0 hr) rfl rfl rfl (Nat.le_of_ble_eq_true rfl) d_W_raise_2 ⟨by decide, by decide⟩ ?_
  intro v_2 s_2 M_2 hp_2
  obtain ⟨rfl, rfl, hn_2, ho_2⟩ := hp_2
  have hc0_2 := (ho_2 _ (by omega) (by omega)).trans hw0
  have hq0_2 := zp_o ho_2 hb (by omega)
  have hq2_2 := zp_o ho_2 h5 (by omega)
  show Z _ _ _ _ _ _ _ _ 5 _ []
  refine z_iconst (v := nI 0) C d_W_raise_5 (by decide) ?_
  refine z_istore (L' := [(0, .ref w), (1, .ref b), (2, .int (nI t)), (3, .ref r), (4, .int (nI 0))]) C d_W_raise_6 (by decide) rfl ?_
  exact loop (t + 1) 0 _ _ _ _ (by omega) (by omega) hc0_2 hq0_2 hn_2 hq2_2 (fun q q1 q2 q3 q4 => ho_2 q q1 q2)
set_option maxHeartbeats 4000000 in
/-- Workshop.power -/
theorem w_powP (E : zE) (l : Launch) (sz : Nat) (M : zM) {w kw1 kw3 : Nat} {Pw1 Pw3 : PS} (hw : zsh E M w kw1 kw3 Pw1 Pw3) {q1 kn1 kd1 : Nat} {N1 D1 : PS} (h1 : zf E M q1 kn1 kd1 N1 D1) (a1 : q1 + 5 ≤ w ∨ w + 15 ≤ q1) (t : Nat) (ht : t ≤ 12) (hd : 1 ≤ kd1) : zMet E l y_W_power c_W_power 4 (some .int) { frames := 3, cells := 0, slots := 0, locals := 70 } 0 0 [.ref w, .ref q1, .int (nI t)] sz M (fun v s M' => (12 < t * (max kn1 kd1 - 1) ∧ some (.int (-6)) = v ∧ sz = s ∧ M = M') ∨ (t * (max kn1 kd1 - 1) ≤ 12 ∧ (some (.int 0) = v ∧ sz = s ∧ (∃ x y, zsh E M' w x y (ps_pow N1 t) (ps_pow D1 t)) ∧ zoutR M M' (w + 1) (w + 15)))) := by
  obtain ⟨hw0, hw1, hw3, ⟨kw5, Pw5, hw5⟩, ⟨kw7, Pw7, hw7⟩, ⟨kw9, Pw9, hw9⟩, ⟨kw11, Pw11, hw11⟩, ⟨kw13, Pw13, hw13⟩⟩ := id hw
  have b1 := zp_lt h1.2.1
  have b2 := zp_lt h1.2.2
  obtain ⟨H, hH⟩ : ∃ H, H = max kn1 kd1 - 1 := ⟨_, rfl⟩
  have hH2 : max kn1 kd1 = H + 1 := by omega
  rw [← hH]
  refine zMet.ofZ (by decide) (Nat.le_of_ble_eq_true rfl) ?_
  intro X hl hini C
  show Z X E 4 _ 0 0 sz M 0 [(0, .ref w), (1, .ref q1), (2, .int (nI t))] []
  refine z_iload_n C d_W_power_0 rfl rfl ?_
  refine z_mabs C ml_W_64 sm_jM_abs ii_jM k_jM_abs (by decide) (Nat.le_of_ble_eq_true rfl) (Nat.zero_le _) (Nat.zero_le _) d_W_power_1 ?_
  refine z_top (y := nI t) (if_pos (nI_pos' (by omega))) ?_
  refine z_istore_n (L' := [(0, .ref w), (1, .ref q1), (2, .int (nI t)), (3, .int (nI t))]) C d_W_power_4 rfl (by decide) rfl ?_
  refine z_iload_n C d_W_power_5 rfl rfl ?_
  refine z_if_ge (tgt := 19) C d_W_power_6 (by decide) (fun _ => ?_) (fun c_6 => absurd (nI_pos' (by omega)) c_6)
  refine z_iload_n C d_W_power_19 rfl rfl ?_
  refine z_aload_n C d_W_power_20 rfl rfl ?_
  refine z_callV (rest := [.int (nI t)]) (n := 0) (As := []) C (f_height E X.2.1 sz _ h1) ⟨z_cb C k_F_height ml_W_70 ii_F rfl rfl (by decide +kernel) ⟨by decide, by decide⟩, C.2.2.2.2.1 _ im_F_height, C.2.2.2.2.1 _ se_F_height⟩ h1.1 rfl rfl rfl (Nat.le_of_ble_eq_true rfl) d_W_power_21 ⟨by decide, by decide⟩ ?_
  intro v_21 s_21 M_21 hp_21
  obtain ⟨rfl, rfl, rfl⟩ := hp_21
  show Z _ _ _ _ _ _ _ _ 24 _ [.int (tI (max kn1 kd1)), .int (nI t)]
  refine z_top (y := nI H) (by rw [hH2, tI_s]) ?_
  refine z_imul C d_W_power_24 ?_
  refine z_top (y := nI (t * H)) (pk_mul t H) ?_
  refine z_bipush (v := 12) C d_W_power_25 (by decide) ?_
  refine z_icmp_le (tgt := 33) C d_W_power_27 (by decide) (fun c27 => ?_) (fun c27 => ?_)
  · have c27 : t * H ≤ 12 := by
      rcases Nat.lt_or_ge 12 (t * H) with q | q
      · exact absurd c27 (by show ¬ nI (t * H) ≤ nI 12; exact nI_ge q (by have : t * H ≤ 12 * 24 := Nat.mul_le_mul ht (by omega); omega))
      · exact q
    have hb1 : t * (kn1 - 1) ≤ 12 := Nat.le_trans (Nat.mul_le_mul_left t (by omega)) c27
    have hb2 : t * (kd1 - 1) ≤ 12 := Nat.le_trans (Nat.mul_le_mul_left t (by omega)) c27
    refine z_aload_n C d_W_power_33 rfl rfl ?_
    refine z_aload_n C d_W_power_34 rfl rfl ?_
    refine z_getN C in_F h1.1 rfl 0 (by decide) fl_W_38 rfl rfl d_W_power_35 ?_
    refine z_iload_n C d_W_power_38 rfl rfl ?_
    refine z_iload_n C d_W_power_39 rfl rfl ?_
    refine z_if_ge (tgt := 50) C d_W_power_40 (by decide) (fun _ => ?_) (fun c_40 => absurd (nI_pos' (by omega)) c_40)
    refine z_aload_n C d_W_power_50 rfl rfl ?_
    refine z_get C in_W hw0 rfl 0 (by decide) fl_W_16 rfl rfl d_W_power_51 ?_
    refine z_callV (rest := []) (n := 3) (As := [.ref (q1 + 1), .int (nI t), .ref (w + 1)]) C (w_raise (t := t) E X.2.1 sz _ hw0 h1.2.1 hw1 hw5 (by omega) (by omega) (by exact hb1) (by omega)) ⟨z_cb C k_W_raise ml_W_74 ii_W rfl rfl (by decide +kernel) ⟨by decide, by decide⟩, C.2.2.2.2.1 _ im_W_raise, C.2.2.2.2.1 _ se_W_raise⟩ hw0 rfl rfl rfl (Nat.le_of_ble_eq_true rfl) d_W_power_54 ⟨by decide, by decide⟩ ?_
    intro v_54 s_54 M_54 hp_54
    obtain ⟨rfl, rfl, ⟨k_54, hn_54⟩, ⟨k5_54, P5_54, h5_54⟩, hf_54⟩ := hp_54
    have hc0_54 := (hf_54 _ (by omega) (by omega) (by omega) (by omega)).trans hw0
    have hc1_54 := (hf_54 _ (by omega) (by omega) (by omega) (by omega)).trans h1.1
    have hq1_54 := zp_kept hw3 (hf_54 _ (by omega) (by omega) (by omega) (by omega)) (hf_54 _ (by omega) (by omega) (by omega) (by omega))
    have hq3_54 := zp_kept hw7 (hf_54 _ (by omega) (by omega) (by omega) (by omega)) (hf_54 _ (by omega) (by omega) (by omega) (by omega))
    have hq4_54 := zp_kept hw9 (hf_54 _ (by omega) (by omega) (by omega) (by omega)) (hf_54 _ (by omega) (by omega) (by omega) (by omega))
    have hq5_54 := zp_kept hw11 (hf_54 _ (by omega) (by omega) (by omega) (by omega)) (hf_54 _ (by omega) (by omega) (by omega) (by omega))
    have hq6_54 := zp_kept hw13 (hf_54 _ (by omega) (by omega) (by omega) (by omega)) (hf_54 _ (by omega) (by omega) (by omega) (by omega))
    have hq7_54 := zp_kept h1.2.1 (hf_54 _ (by omega) (by omega) (by omega) (by omega)) (hf_54 _ (by omega) (by omega) (by omega) (by omega))
    have hq8_54 := zp_kept h1.2.2 (hf_54 _ (by omega) (by omega) (by omega) (by omega)) (hf_54 _ (by omega) (by omega) (by omega) (by omega))
    have hR_54 : zoutR M M_54 (w + 1) (w + 15) := fun q hq => hf_54 q (by omega) (by omega) (by omega) (by omega)
    show Z _ _ _ _ _ _ _ _ 57 _ []
    refine z_aload_n C d_W_power_57 rfl rfl ?_
    refine z_aload_n C d_W_power_58 rfl rfl ?_
    refine z_getN C in_F hc1_54 rfl 1 (by decide) fl_W_41 rfl rfl d_W_power_59 ?_
    refine z_iload_n C d_W_power_62 rfl rfl ?_
    refine z_iload_n C d_W_power_63 rfl rfl ?_
    refine z_if_ge (tgt := 74) C d_W_power_64 (by decide) (fun _ => ?_) (fun c_64 => absurd (nI_pos' (by omega)) c_64)
    refine z_aload_n C d_W_power_74 rfl rfl ?_
    refine z_get C in_W hc0_54 rfl 1 (by decide) fl_W_20 rfl rfl d_W_power_75 ?_
    refine z_callV (rest := []) (n := 3) (As := [.ref (q1 + 3), .int (nI t), .ref (w + 3)]) C (w_raise (t := t) E X.2.1 sz _ hc0_54 hq8_54 hq1_54 h5_54 (by omega) (by omega) (by exact hb2) (by omega)) ⟨z_cb C k_W_raise ml_W_74 ii_W rfl rfl (by decide +kernel) ⟨by decide, by decide⟩, C.2.2.2.2.1 _ im_W_raise, C.2.2.2.2.1 _ se_W_raise⟩ hc0_54 rfl rfl rfl (Nat.le_of_ble_eq_true rfl) d_W_power_78 ⟨by decide, by decide⟩ ?_
    intro v_7854 s_7854 M_7854 hp_7854
    obtain ⟨rfl, rfl, ⟨k_7854, hn_7854⟩, ⟨k5_7854, P5_7854, h5_7854⟩, hf_7854⟩ := hp_7854
    have hc0_7854 := (hf_7854 _ (by omega) (by omega) (by omega) (by omega)).trans hc0_54
    have hc1_7854 := (hf_7854 _ (by omega) (by omega) (by omega) (by omega)).trans hc1_54
    have hq0_7854 := zp_kept hn_54 (hf_7854 _ (by omega) (by omega) (by omega) (by omega)) (hf_7854 _ (by omega) (by omega) (by omega) (by omega))
    have hq3_7854 := zp_kept hq3_54 (hf_7854 _ (by omega) (by omega) (by omega) (by omega)) (hf_7854 _ (by omega) (by omega) (by omega) (by omega))
    have hq4_7854 := zp_kept hq4_54 (hf_7854 _ (by omega) (by omega) (by omega) (by omega)) (hf_7854 _ (by omega) (by omega) (by omega) (by omega))
    have hq5_7854 := zp_kept hq5_54 (hf_7854 _ (by omega) (by omega) (by omega) (by omega)) (hf_7854 _ (by omega) (by omega) (by omega) (by omega))
    have hq6_7854 := zp_kept hq6_54 (hf_7854 _ (by omega) (by omega) (by omega) (by omega)) (hf_7854 _ (by omega) (by omega) (by omega) (by omega))
    have hq7_7854 := zp_kept hq7_54 (hf_7854 _ (by omega) (by omega) (by omega) (by omega)) (hf_7854 _ (by omega) (by omega) (by omega) (by omega))
    have hq8_7854 := zp_kept hq8_54 (hf_7854 _ (by omega) (by omega) (by omega) (by omega)) (hf_7854 _ (by omega) (by omega) (by omega) (by omega))
    have hR_7854 : zoutR M_54 M_7854 (w + 1) (w + 15) := fun q hq => hf_7854 q (by omega) (by omega) (by omega) (by omega)
    show Z _ _ _ _ _ _ _ _ 81 _ []
    refine z_iconst (v := 0) C d_W_power_81 (by decide) ?_
    exact z_iret C (Or.inr ⟨c27, rfl, rfl, ⟨_, _, ⟨hc0_7854, hq0_7854, hn_7854, ⟨_, _, h5_7854⟩, ⟨_, _, hq3_7854⟩, ⟨_, _, hq4_7854⟩, ⟨_, _, hq5_7854⟩, ⟨_, _, hq6_7854⟩⟩⟩, zoutR_tr (zoutR_tr zoutR_rf hR_54) hR_7854⟩) d_W_power_82
  · have c27 : 12 < t * H := by
      rcases Nat.lt_or_ge 12 (t * H) with q | q
      · exact q
      · exact absurd (by show nI (t * H) ≤ nI 12; exact nI_le q (by decide)) c27
    refine z_bipush (v := -6) C d_W_power_30 (by decide) ?_
    exact z_iret C (Or.inl ⟨c27, rfl, rfl, rfl⟩) d_W_power_32
set_option maxHeartbeats 4000000 in
/-- Workshop.power -/
theorem w_powN (E : zE) (l : Launch) (sz : Nat) (M : zM) {w kw1 kw3 : Nat} {Pw1 Pw3 : PS} (hw : zsh E M w kw1 kw3 Pw1 Pw3) {q1 kn1 kd1 : Nat} {N1 D1 : PS} (h1 : zf E M q1 kn1 kd1 N1 D1) (a1 : q1 + 5 ≤ w ∨ w + 15 ≤ q1) (t : Nat) (ht : t ≤ 12) (ht0 : 0 < t) (hd : 1 ≤ kd1) : zMet E l y_W_power c_W_power 4 (some .int) { frames := 3, cells := 0, slots := 0, locals := 70 } 0 0 [.ref w, .ref q1, .int (-nI t)] sz M (fun v s M' => (kn1 = 0 ∧ some (.int (-5)) = v ∧ sz = s ∧ M = M') ∨ (kn1 ≠ 0 ∧ 12 < t * (max kn1 kd1 - 1) ∧ some (.int (-6)) = v ∧ sz = s ∧ M = M') ∨ (kn1 ≠ 0 ∧ t * (max kn1 kd1 - 1) ≤ 12 ∧ (some (.int 0) = v ∧ sz = s ∧ (∃ x y, zsh E M' w x y (ps_pow D1 t) (ps_pow N1 t)) ∧ zoutR M M' (w + 1) (w + 15)))) := by
  obtain ⟨hw0, hw1, hw3, ⟨kw5, Pw5, hw5⟩, ⟨kw7, Pw7, hw7⟩, ⟨kw9, Pw9, hw9⟩, ⟨kw11, Pw11, hw11⟩, ⟨kw13, Pw13, hw13⟩⟩ := id hw
  have b1 := zp_lt h1.2.1
  have b2 := zp_lt h1.2.2
  obtain ⟨H, hH⟩ : ∃ H, H = max kn1 kd1 - 1 := ⟨_, rfl⟩
  have hH2 : max kn1 kd1 = H + 1 := by omega
  rw [← hH]
  have neg1 : -nI t < 0 := by
    rw [Int32.lt_iff_toInt_lt, sb_negT (by omega), Int32.toInt_zero]; omega
  refine zMet.ofZ (by decide) (Nat.le_of_ble_eq_true rfl) ?_
  intro X hl hini C
  show Z X E 4 _ 0 0 sz M 0 [(0, .ref w), (1, .ref q1), (2, .int (-nI t))] []
  refine z_iload_n C d_W_power_0 rfl rfl ?_
  refine z_mabs C ml_W_64 sm_jM_abs ii_jM k_jM_abs (by decide) (Nat.le_of_ble_eq_true rfl) (Nat.zero_le _) (Nat.zero_le _) d_W_power_1 ?_
  refine z_top (y := nI t) (by rw [if_neg (Int32.not_le.mpr neg1)]; rw [Int32.sub_neg]; exact Int32.zero_add _) ?_
  refine z_istore_n (L' := [(0, .ref w), (1, .ref q1), (2, .int (-nI t)), (3, .int (nI t))]) C d_W_power_4 rfl (by decide) rfl ?_
  refine z_iload_n C d_W_power_5 rfl rfl ?_
  refine z_if_ge (tgt := 19) C d_W_power_6 (by decide) (fun c_6 => absurd c_6 (Int32.not_le.mpr neg1)) (fun _ => ?_)
  refine z_aload_n C d_W_power_9 rfl rfl ?_
  refine z_callV (rest := []) (n := 0) (As := []) C (f_isZero E X.2.1 sz _ h1) ⟨z_cb C k_F_isZero ml_W_50 ii_F rfl rfl (by decide +kernel) ⟨by decide, by decide⟩, C.2.2.2.2.1 _ im_F_isZero, C.2.2.2.2.1 _ se_F_isZero⟩ h1.1 rfl rfl rfl (Nat.le_of_ble_eq_true rfl) d_W_power_10 ⟨by decide, by decide⟩ ?_
  intro v_10 s_10 M_10 hp_10
  obtain ⟨rfl, rfl, rfl⟩ := hp_10
  show Z _ _ _ _ _ _ _ _ 13 _ [.int (if kn1 = 0 then 1 else 0)]
  refine z_if_eq (tgt := 19) C d_W_power_13 (by decide) (fun c13 => ?_) (fun c13 => ?_)
  · have c13 : kn1 ≠ 0 := fun q => by rw [if_pos q] at c13; exact absurd c13 (by decide)
    refine z_iload_n C d_W_power_19 rfl rfl ?_
    refine z_aload_n C d_W_power_20 rfl rfl ?_
    refine z_callV (rest := [.int (nI t)]) (n := 0) (As := []) C (f_height E X.2.1 sz _ h1) ⟨z_cb C k_F_height ml_W_70 ii_F rfl rfl (by decide +kernel) ⟨by decide, by decide⟩, C.2.2.2.2.1 _ im_F_height, C.2.2.2.2.1 _ se_F_height⟩ h1.1 rfl rfl rfl (Nat.le_of_ble_eq_true rfl) d_W_power_21 ⟨by decide, by decide⟩ ?_
    intro v_21 s_21 M_21 hp_21
    obtain ⟨rfl, rfl, rfl⟩ := hp_21
    show Z _ _ _ _ _ _ _ _ 24 _ [.int (tI (max kn1 kd1)), .int (nI t)]
    refine z_top (y := nI H) (by rw [hH2, tI_s]) ?_
    refine z_imul C d_W_power_24 ?_
    refine z_top (y := nI (t * H)) (pk_mul t H) ?_
    refine z_bipush (v := 12) C d_W_power_25 (by decide) ?_
    refine z_icmp_le (tgt := 33) C d_W_power_27 (by decide) (fun c27 => ?_) (fun c27 => ?_)
    · have c27 : t * H ≤ 12 := by
        rcases Nat.lt_or_ge 12 (t * H) with q | q
        · exact absurd c27 (by show ¬ nI (t * H) ≤ nI 12; exact nI_ge q (by have : t * H ≤ 12 * 24 := Nat.mul_le_mul ht (by omega); omega))
        · exact q
      have hb1 : t * (kn1 - 1) ≤ 12 := Nat.le_trans (Nat.mul_le_mul_left t (by omega)) c27
      have hb2 : t * (kd1 - 1) ≤ 12 := Nat.le_trans (Nat.mul_le_mul_left t (by omega)) c27
      refine z_aload_n C d_W_power_33 rfl rfl ?_
      refine z_aload_n C d_W_power_34 rfl rfl ?_
      refine z_getN C in_F h1.1 rfl 0 (by decide) fl_W_38 rfl rfl d_W_power_35 ?_
      refine z_iload_n C d_W_power_38 rfl rfl ?_
      refine z_iload_n C d_W_power_39 rfl rfl ?_
      refine z_if_ge (tgt := 50) C d_W_power_40 (by decide) (fun c_40 => absurd c_40 (Int32.not_le.mpr neg1)) (fun _ => ?_)
      refine z_aload_n C d_W_power_43 rfl rfl ?_
      refine z_get C in_W hw0 rfl 1 (by decide) fl_W_20 rfl rfl d_W_power_44 ?_
      refine z_goto (tgt := 54) C d_W_power_47 (by decide) ?_
      refine z_callV (rest := []) (n := 3) (As := [.ref (q1 + 1), .int (nI t), .ref (w + 3)]) C (w_raise (t := t) E X.2.1 sz _ hw0 h1.2.1 hw3 hw5 (by omega) (by omega) (by exact hb1) (by omega)) ⟨z_cb C k_W_raise ml_W_74 ii_W rfl rfl (by decide +kernel) ⟨by decide, by decide⟩, C.2.2.2.2.1 _ im_W_raise, C.2.2.2.2.1 _ se_W_raise⟩ hw0 rfl rfl rfl (Nat.le_of_ble_eq_true rfl) d_W_power_54 ⟨by decide, by decide⟩ ?_
      intro v_54 s_54 M_54 hp_54
      obtain ⟨rfl, rfl, ⟨k_54, hn_54⟩, ⟨k5_54, P5_54, h5_54⟩, hf_54⟩ := hp_54
      have hc0_54 := (hf_54 _ (by omega) (by omega) (by omega) (by omega)).trans hw0
      have hc1_54 := (hf_54 _ (by omega) (by omega) (by omega) (by omega)).trans h1.1
      have hq0_54 := zp_kept hw1 (hf_54 _ (by omega) (by omega) (by omega) (by omega)) (hf_54 _ (by omega) (by omega) (by omega) (by omega))
      have hq3_54 := zp_kept hw7 (hf_54 _ (by omega) (by omega) (by omega) (by omega)) (hf_54 _ (by omega) (by omega) (by omega) (by omega))
      have hq4_54 := zp_kept hw9 (hf_54 _ (by omega) (by omega) (by omega) (by omega)) (hf_54 _ (by omega) (by omega) (by omega) (by omega))
      have hq5_54 := zp_kept hw11 (hf_54 _ (by omega) (by omega) (by omega) (by omega)) (hf_54 _ (by omega) (by omega) (by omega) (by omega))
      have hq6_54 := zp_kept hw13 (hf_54 _ (by omega) (by omega) (by omega) (by omega)) (hf_54 _ (by omega) (by omega) (by omega) (by omega))
      have hq7_54 := zp_kept h1.2.1 (hf_54 _ (by omega) (by omega) (by omega) (by omega)) (hf_54 _ (by omega) (by omega) (by omega) (by omega))
      have hq8_54 := zp_kept h1.2.2 (hf_54 _ (by omega) (by omega) (by omega) (by omega)) (hf_54 _ (by omega) (by omega) (by omega) (by omega))
      have hR_54 : zoutR M M_54 (w + 1) (w + 15) := fun q hq => hf_54 q (by omega) (by omega) (by omega) (by omega)
      show Z _ _ _ _ _ _ _ _ 57 _ []
      refine z_aload_n C d_W_power_57 rfl rfl ?_
      refine z_aload_n C d_W_power_58 rfl rfl ?_
      refine z_getN C in_F hc1_54 rfl 1 (by decide) fl_W_41 rfl rfl d_W_power_59 ?_
      refine z_iload_n C d_W_power_62 rfl rfl ?_
      refine z_iload_n C d_W_power_63 rfl rfl ?_
      refine z_if_ge (tgt := 74) C d_W_power_64 (by decide) (fun c_64 => absurd c_64 (Int32.not_le.mpr neg1)) (fun _ => ?_)
      refine z_aload_n C d_W_power_67 rfl rfl ?_
      refine z_get C in_W hc0_54 rfl 0 (by decide) fl_W_16 rfl rfl d_W_power_68 ?_
      refine z_goto (tgt := 78) C d_W_power_71 (by decide) ?_
      refine z_callV (rest := []) (n := 3) (As := [.ref (q1 + 3), .int (nI t), .ref (w + 1)]) C (w_raise (t := t) E X.2.1 sz _ hc0_54 hq8_54 hq0_54 h5_54 (by omega) (by omega) (by exact hb2) (by omega)) ⟨z_cb C k_W_raise ml_W_74 ii_W rfl rfl (by decide +kernel) ⟨by decide, by decide⟩, C.2.2.2.2.1 _ im_W_raise, C.2.2.2.2.1 _ se_W_raise⟩ hc0_54 rfl rfl rfl (Nat.le_of_ble_eq_true rfl) d_W_power_78 ⟨by decide, by decide⟩ ?_
      intro v_7854 s_7854 M_7854 hp_7854
      obtain ⟨rfl, rfl, ⟨k_7854, hn_7854⟩, ⟨k5_7854, P5_7854, h5_7854⟩, hf_7854⟩ := hp_7854
      have hc0_7854 := (hf_7854 _ (by omega) (by omega) (by omega) (by omega)).trans hc0_54
      have hc1_7854 := (hf_7854 _ (by omega) (by omega) (by omega) (by omega)).trans hc1_54
      have hq1_7854 := zp_kept hn_54 (hf_7854 _ (by omega) (by omega) (by omega) (by omega)) (hf_7854 _ (by omega) (by omega) (by omega) (by omega))
      have hq3_7854 := zp_kept hq3_54 (hf_7854 _ (by omega) (by omega) (by omega) (by omega)) (hf_7854 _ (by omega) (by omega) (by omega) (by omega))
      have hq4_7854 := zp_kept hq4_54 (hf_7854 _ (by omega) (by omega) (by omega) (by omega)) (hf_7854 _ (by omega) (by omega) (by omega) (by omega))
      have hq5_7854 := zp_kept hq5_54 (hf_7854 _ (by omega) (by omega) (by omega) (by omega)) (hf_7854 _ (by omega) (by omega) (by omega) (by omega))
      have hq6_7854 := zp_kept hq6_54 (hf_7854 _ (by omega) (by omega) (by omega) (by omega)) (hf_7854 _ (by omega) (by omega) (by omega) (by omega))
      have hq7_7854 := zp_kept hq7_54 (hf_7854 _ (by omega) (by omega) (by omega) (by omega)) (hf_7854 _ (by omega) (by omega) (by omega) (by omega))
      have hq8_7854 := zp_kept hq8_54 (hf_7854 _ (by omega) (by omega) (by omega) (by omega)) (hf_7854 _ (by omega) (by omega) (by omega) (by omega))
      have hR_7854 : zoutR M_54 M_7854 (w + 1) (w + 15) := fun q hq => hf_7854 q (by omega) (by omega) (by omega) (by omega)
      show Z _ _ _ _ _ _ _ _ 81 _ []
      refine z_iconst (v := 0) C d_W_power_81 (by decide) ?_
      exact z_iret C (Or.inr (Or.inr ⟨c13, c27, rfl, rfl, ⟨_, _, ⟨hc0_7854, hn_7854, hq1_7854, ⟨_, _, h5_7854⟩, ⟨_, _, hq3_7854⟩, ⟨_, _, hq4_7854⟩, ⟨_, _, hq5_7854⟩, ⟨_, _, hq6_7854⟩⟩⟩, zoutR_tr (zoutR_tr zoutR_rf hR_54) hR_7854⟩)) d_W_power_82
    · have c27 : 12 < t * H := by
        rcases Nat.lt_or_ge 12 (t * H) with q | q
        · exact q
        · exact absurd (by show nI (t * H) ≤ nI 12; exact nI_le q (by decide)) c27
      refine z_bipush (v := -6) C d_W_power_30 (by decide) ?_
      exact z_iret C (Or.inr (Or.inl ⟨c13, c27, rfl, rfl, rfl⟩)) d_W_power_32
  · have c13 : kn1 = 0 := by
      by_cases q : kn1 = 0
      · exact q
      · exact absurd (if_neg q) c13
    refine z_bipush (v := -5) C d_W_power_16 (by decide) ?_
    exact z_iret C (Or.inl ⟨c13, rfl, rfl, rfl⟩) d_W_power_18
