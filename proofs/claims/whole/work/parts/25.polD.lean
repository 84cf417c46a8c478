set_option maxHeartbeats 4000000 in
/-- Polynomial.addMultiple -/
theorem p_addMultiple (E : zE) (l : Launch) (sz : Nat) (M : zM) {a n k b nb kb : Nat} {P B : PS} (ha : zp E M a n k P) (hb : zp E M b nb kb B) (hne : a ≠ b) (hk : kb ≤ n) (c : FF) : zMet E l y_P_addMultiple c_P_addMultiple 5 none { frames := 1, cells := 0, slots := 0, locals := 22 } 0 0 [.ref a, .ref b, .int (fI c)] sz M (fun v s M' => none = v ∧ sz = s ∧ (∃ k', zp E M' a n k' (ps_add P (ps_mul (ps_C c) B))) ∧ zout M M' a) := by
  obtain ⟨f, ha0, ha1, hr, hkn, hn⟩ := id ha
  obtain ⟨fb, hb0, hb1, hrb, hknb, hnb⟩ := id hb
  have eab := z_apart ha1 hb0
  have eba := z_apart hb1 ha0
  obtain ⟨K, hK⟩ : ∃ K, K = max k kb := ⟨_, rfl⟩
  have hKk : k ≤ K := by omega
  have hKb : kb ≤ K := by omega
  have hKn : K ≤ n := by omega
  have hR : ∀ i, K ≤ i → (ps_add P (ps_mul (ps_C c) B)) i = 0 := fun i hi => by simp only [ps_add, ps_mul, ps_mC, hr.1 i (by omega), hrb.1 i (by omega)]; grind
  refine zMet.ofZ (by decide) (Nat.le_of_ble_eq_true rfl) ?_
  intro X hl hini C
  have loop : ∀ (m i : Nat) (g : Nat → Int32), i ≤ K → K + 1 ≤ i + m → (∀ j, j < i → g j = fI ((ps_add P (ps_mul (ps_C c) B)) j)) → (∀ j, i ≤ j → g j = f j) → Z X E 5 (zQ X E 0 0 (fun v s M' => none = v ∧ sz = s ∧ (∃ k', zp E M' a n k' (ps_add P (ps_mul (ps_C c) B))) ∧ zout M M' a)) 0 0 sz (zU M (a + 1) (.inl (E.2.1 0, n, .inl g))) 25 [(0, .ref a), (1, .ref b), (2, .int (fI c)), (3, .int (tI K)), (4, .int (nI i))] [] := by
    intro m
    induction m with
    | zero => intro i g h1 h2; omega
    | succ m ih =>
      intro i g hi hm hg hf
      refine z_iload C d_P_addMultiple_25 rfl ?_
      refine z_iload_n C d_P_addMultiple_27 rfl rfl ?_
      refine z_icmp_gt (tgt := 63) C d_P_addMultiple_28 (by decide) (fun c28 => ?_) (fun c28 => ?_)
      · have c28 := (tI_gtn (by omega) (by omega)).mp c28
        refine z_aload_n C d_P_addMultiple_63 rfl rfl ?_
        refine z_iload_n C d_P_addMultiple_64 rfl rfl ?_
        refine z_callV (rest := []) (n := 1) (As := [.int (tI K)]) C (p_trimFrom (P := (ps_add P (ps_mul (ps_C c) B))) E X.2.1 sz _ ((zU_ne (by omega)).trans ha0) zU_eq hKn hn hR (fun i hi => hg i (by omega))) ⟨z_cb C k_P_trimFrom ml_P_33 ii_P rfl rfl (by decide +kernel) ⟨by decide, by decide⟩, C.2.2.2.2.1 _ im_P_trimFrom, C.2.2.2.2.1 _ se_P_trimFrom⟩ ((zU_ne (by omega)).trans ha0) rfl rfl rfl (Nat.le_of_ble_eq_true rfl) d_P_addMultiple_65 ⟨by decide, by decide⟩ ?_
        intro v_65 s_65 M_65 hp_65
        obtain ⟨rfl, rfl, hz, ho⟩ := hp_65
        show Z _ _ _ _ _ _ _ _ 68 _ []
        exact z_vret C ⟨rfl, rfl, hz, zout_tr zout_u1 ho⟩ d_P_addMultiple_68
      · have c28 : i < K := Nat.not_le.mp (fun q => c28 ((tI_gtn (by omega) (by omega)).mpr q))
        refine z_aload_n C d_P_addMultiple_31 rfl rfl ?_
        refine z_get C in_P ((zU_ne (by omega)).trans ha0) rfl 0 (by decide) fl_P_15 rfl rfl d_P_addMultiple_32 ?_
        refine z_iload C d_P_addMultiple_35 rfl ?_
        refine z_aload_n C d_P_addMultiple_37 rfl rfl ?_
        refine z_iload C d_P_addMultiple_38 rfl ?_
        refine z_callV (rest := [.int (nI i), .ref (a + 1)]) (n := 1) (As := [.int (nI i)]) C (q_P_get E X.2.1 sz _ a (nI i) ((zU_ne (by omega)).trans ha0) zU_eq (by omega)) ⟨z_cb C k_P_get ml_P_19 ii_P rfl rfl (by decide +kernel) ⟨by decide, by decide⟩, C.2.2.2.2.1 _ im_P_get, C.2.2.2.2.1 _ se_P_get⟩ ((zU_ne (by omega)).trans ha0) rfl rfl rfl (Nat.le_of_ble_eq_true rfl) d_P_addMultiple_40 ⟨by decide, by decide⟩ ?_
        intro v_40 s_40 M_40 hp_40
        obtain ⟨rfl, rfl, rfl⟩ := hp_40
        show Z _ _ _ _ _ _ _ _ 43 _ [.int _, .int (nI i), .ref (a + 1)]
        refine z_top (y := fI (P i)) (getv hr hkn hn (by omega) (hf i (Nat.le_refl i))) ?_
        refine z_aload_n C d_P_addMultiple_43 rfl rfl ?_
        refine z_iload C d_P_addMultiple_44 rfl ?_
        refine z_callV (rest := [.int (fI (P i)), .int (nI i), .ref (a + 1)]) (n := 1) (As := [.int (nI i)]) C (p_get E X.2.1 sz _ i (by omega) (zp_kept hb (zU_ne (by omega)) (zU_ne (by omega)))) ⟨z_cb C k_P_get ml_P_19 ii_P rfl rfl (by decide +kernel) ⟨by decide, by decide⟩, C.2.2.2.2.1 _ im_P_get, C.2.2.2.2.1 _ se_P_get⟩ ((zU_ne (by omega)).trans hb0) rfl rfl rfl (Nat.le_of_ble_eq_true rfl) d_P_addMultiple_46 ⟨by decide, by decide⟩ ?_
        intro v_46 s_46 M_46 hp_46
        obtain ⟨rfl, rfl, rfl⟩ := hp_46
        show Z _ _ _ _ _ _ _ _ 49 _ [.int (fI (B i)), .int (fI (P i)), .int (nI i), .ref (a + 1)]
        refine z_iload_n C d_P_addMultiple_49 rfl rfl ?_
        refine z_imul C d_P_addMultiple_50 ?_
        refine z_iadd C d_P_addMultiple_51 ?_
        refine z_sipush (v := 10007) C d_P_addMultiple_52 (by decide) ?_
        refine z_irem C d_P_addMultiple_55 (by decide) ?_
        refine z_top (y := fI ((ps_add P (ps_mul (ps_C c) B)) i)) (by rw [fI_madd]; congr 1; simp only [ps_add, ps_mul, ps_mC]; grind) ?_
        refine z_iast C zU_eq 0 rfl i (rfl) (by omega) (by omega) d_P_addMultiple_56 ?_
        refine z_world zU_uu ?_
        refine z_iinc (v := nI (i + 1)) (L' := [(0, .ref a), (1, .ref b), (2, .int (fI c)), (3, .int (tI K)), (4, .int (nI (i + 1)))]) C d_P_addMultiple_57 rfl (nI_1 i) (by decide) rfl ?_
        refine z_goto (tgt := 25) C d_P_addMultiple_60 (by decide) ?_
        exact ih (i + 1) _ (by omega) (by omega) (inv_up hg rfl) (inv_keep hf)
  show Z X E 5 _ 0 0 sz M 0 [(0, .ref a), (1, .ref b), (2, .int (fI c))] []
  refine z_aload_n C d_P_addMultiple_0 rfl rfl ?_
  refine z_get C in_P ha0 rfl 1 (by decide) fl_P_9 rfl rfl d_P_addMultiple_1 ?_
  refine z_aload_n C d_P_addMultiple_4 rfl rfl ?_
  refine z_get C in_P hb0 rfl 1 (by decide) fl_P_9 rfl rfl d_P_addMultiple_5 ?_
  refine z_mmax C ml_P_37 sm_jM_max ii_jM k_jM_max (by decide) (Nat.le_of_ble_eq_true rfl) (Nat.zero_le _) (Nat.zero_le _) d_P_addMultiple_8 ?_
  refine z_top (y := tI K) (by rw [hK]; exact tI_max (by omega) (by omega)) ?_
  refine z_aload_n C d_P_addMultiple_11 rfl rfl ?_
  refine z_get C in_P ha0 rfl 0 (by decide) fl_P_15 rfl rfl d_P_addMultiple_12 ?_
  refine z_alen (v := nI n) C ha1 0 rfl (rfl) d_P_addMultiple_15 ?_
  refine z_iconst (v := 1) C d_P_addMultiple_16 (by decide) ?_
  refine z_isub C d_P_addMultiple_17 ?_
  refine z_mmin C ml_P_23 sm_jM_min ii_jM k_jM_min (by decide) (Nat.le_of_ble_eq_true rfl) (Nat.zero_le _) (Nat.zero_le _) d_P_addMultiple_18 ?_
  refine z_top (y := tI K) (tI_min (k := K) (m := n) (by omega) (by omega) hKn) ?_
  refine z_istore_n (L' := [(0, .ref a), (1, .ref b), (2, .int (fI c)), (3, .int (tI K))]) C d_P_addMultiple_21 rfl (by decide) rfl ?_
  refine z_iconst (v := nI 0) C d_P_addMultiple_22 (by decide) ?_
  refine z_istore (L' := [(0, .ref a), (1, .ref b), (2, .int (fI c)), (3, .int (tI K)), (4, .int (nI 0))]) C d_P_addMultiple_23 (by decide) rfl ?_
  refine z_world (zU_id (a := a + 1) (e := .inl (E.2.1 0, n, .inl f)) ha1).symm ?_
  exact loop (K + 1) 0 f (by omega) (by omega) (fun j hj => absurd hj (by omega)) (fun _ _ => rfl)
set_option maxHeartbeats 4000000 in
/-- Polynomial.setDerivative of 0 -/
theorem p_setDer0 (E : zE) (l : Launch) (sz : Nat) (M : zM) {a n k b nb : Nat} {P B : PS} (ha : zp E M a n k P) (hb : zp E M b nb 0 B) (hne : a ≠ b) : zMet E l y_P_setDerivative c_P_setDerivative 4 none { frames := 1, cells := 0, slots := 0, locals := 22 } 0 0 [.ref a, .ref b] sz M (fun v s M' => none = v ∧ sz = s ∧ (∃ k', zp E M' a n k' (ps_der B)) ∧ zout M M' a) := by
  obtain ⟨f, ha0, ha1, hr, hkn, hn⟩ := id ha
  obtain ⟨fb, hb0, hb1, hrb, hkb0, hnb⟩ := id hb
  have eab := z_apart ha1 hb0
  have eba := z_apart hb1 ha0
  refine zMet.ofZ (by decide) (Nat.le_of_ble_eq_true rfl) ?_
  intro X hl hini C
  show Z X E 4 _ 0 0 sz M 0 [(0, .ref a), (1, .ref b)] []
  refine z_aload_n C d_P_setDerivative_0 rfl rfl ?_
  refine z_get C in_P hb0 rfl 1 (by decide) fl_P_9 rfl rfl d_P_setDerivative_1 ?_
  refine z_iconst (v := 1) C d_P_setDerivative_4 (by decide) ?_
  refine z_isub C d_P_setDerivative_5 ?_
  refine z_top (y := -2) (by decide) ?_
  refine z_aload_n C d_P_setDerivative_6 rfl rfl ?_
  refine z_get C in_P ha0 rfl 0 (by decide) fl_P_15 rfl rfl d_P_setDerivative_7 ?_
  refine z_alen (v := nI n) C ha1 0 rfl (rfl) d_P_setDerivative_10 ?_
  refine z_iconst (v := 1) C d_P_setDerivative_11 (by decide) ?_
  refine z_isub C d_P_setDerivative_12 ?_
  refine z_mmin C ml_P_23 sm_jM_min ii_jM k_jM_min (by decide) (Nat.le_of_ble_eq_true rfl) (Nat.zero_le _) (Nat.zero_le _) d_P_setDerivative_13 ?_
  refine z_top (y := -2) (if_neg (by rw [Int32.lt_iff_toInt_lt]; show ¬ ((tI n).toInt < (-2 : Int32).toInt); rw [tI_int (by omega)]; show ¬ ((n : Int) - 1 < -2); omega)) ?_
  refine z_istore_n (L' := [(0, .ref a), (1, .ref b), (2, .int (-2))]) C d_P_setDerivative_16 rfl (by decide) rfl ?_
  refine z_iconst (v := 0) C d_P_setDerivative_17 (by decide) ?_
  refine z_istore_n (L' := [(0, .ref a), (1, .ref b), (2, .int (-2)), (3, .int 0)]) C d_P_setDerivative_18 rfl (by decide) rfl ?_
  refine z_iload_n C d_P_setDerivative_19 rfl rfl ?_
  refine z_iload_n C d_P_setDerivative_20 rfl rfl ?_
  refine z_icmp_gt (tgt := 51) C d_P_setDerivative_21 (by decide) (fun _ => ?_) (fun c_21 => absurd (by decide) c_21)
  refine z_aload_n C d_P_setDerivative_51 rfl rfl ?_
  refine z_iload_n C d_P_setDerivative_52 rfl rfl ?_
  refine z_callV (rest := []) (n := 1) (As := [.int (-2)]) C (p_trimNeg (P := ps_der B) E X.2.1 sz _ ha0 ha1 (by decide) hn (fun i => by simp only [ps_der, hrb.1 (i + 1) (Nat.zero_le _)]; grind)) ⟨z_cb C k_P_trimFrom ml_P_33 ii_P rfl rfl (by decide +kernel) ⟨by decide, by decide⟩, C.2.2.2.2.1 _ im_P_trimFrom, C.2.2.2.2.1 _ se_P_trimFrom⟩ ha0 rfl rfl rfl (Nat.le_of_ble_eq_true rfl) d_P_setDerivative_53 ⟨by decide, by decide⟩ ?_
  intro v_53 s_53 M_53 hp_53
  obtain ⟨rfl, rfl, hz, ho⟩ := hp_53
  show Z _ _ _ _ _ _ _ _ 56 _ []
  exact z_vret C ⟨rfl, rfl, hz, ho⟩ d_P_setDerivative_56
set_option maxHeartbeats 4000000 in
/-- Polynomial.setDerivative -/
theorem p_setDerS (E : zE) (l : Launch) (sz : Nat) (M : zM) {a n k b nb m : Nat} {P B : PS} (ha : zp E M a n k P) (hb : zp E M b nb (m + 1) B) (hne : a ≠ b) (hmn : m ≤ n) : zMet E l y_P_setDerivative c_P_setDerivative 4 none { frames := 1, cells := 0, slots := 0, locals := 22 } 0 0 [.ref a, .ref b] sz M (fun v s M' => none = v ∧ sz = s ∧ (∃ k', zp E M' a n k' (ps_der B)) ∧ zout M M' a) := by
  obtain ⟨f, ha0, ha1, hr, hkn, hn⟩ := id ha
  obtain ⟨fb, hb0, hb1, hrb, hknb, hnb⟩ := id hb
  have eab := z_apart ha1 hb0
  have eba := z_apart hb1 ha0
  have hR : ∀ i, m ≤ i → ps_der B i = 0 := fun i hi => by simp only [ps_der, hrb.1 (i + 1) (by omega)]; grind
  refine zMet.ofZ (by decide) (Nat.le_of_ble_eq_true rfl) ?_
  intro X hl hini C
  have loop : ∀ (p i : Nat) (g : Nat → Int32), i ≤ m → m + 1 ≤ i + p → (∀ j, j < i → g j = fI (ps_der B j)) → Z X E 4 (zQ X E 0 0 (fun v s M' => none = v ∧ sz = s ∧ (∃ k', zp E M' a n k' (ps_der B)) ∧ zout M M' a)) 0 0 sz (zU M (a + 1) (.inl (E.2.1 0, n, .inl g))) 19 [(0, .ref a), (1, .ref b), (2, .int (tI m)), (3, .int (nI i))] [] := by
    intro p
    induction p with
    | zero => intro i g h1 h2; omega
    | succ p ih =>
      intro i g hi hm hg
      refine z_iload_n C d_P_setDerivative_19 rfl rfl ?_
      refine z_iload_n C d_P_setDerivative_20 rfl rfl ?_
      refine z_icmp_gt (tgt := 51) C d_P_setDerivative_21 (by decide) (fun c21 => ?_) (fun c21 => ?_)
      · have c21 := (tI_gtn (by omega) (by omega)).mp c21
        refine z_aload_n C d_P_setDerivative_51 rfl rfl ?_
        refine z_iload_n C d_P_setDerivative_52 rfl rfl ?_
        refine z_callV (rest := []) (n := 1) (As := [.int (tI m)]) C (p_trimFrom (P := ps_der B) E X.2.1 sz _ ((zU_ne (by omega)).trans ha0) zU_eq hmn hn hR (fun i hi => hg i (by omega))) ⟨z_cb C k_P_trimFrom ml_P_33 ii_P rfl rfl (by decide +kernel) ⟨by decide, by decide⟩, C.2.2.2.2.1 _ im_P_trimFrom, C.2.2.2.2.1 _ se_P_trimFrom⟩ ((zU_ne (by omega)).trans ha0) rfl rfl rfl (Nat.le_of_ble_eq_true rfl) d_P_setDerivative_53 ⟨by decide, by decide⟩ ?_
        intro v_53 s_53 M_53 hp_53
        obtain ⟨rfl, rfl, hz, ho⟩ := hp_53
        show Z _ _ _ _ _ _ _ _ 56 _ []
        exact z_vret C ⟨rfl, rfl, hz, zout_tr zout_u1 ho⟩ d_P_setDerivative_56
      · have c21 : i < m := Nat.not_le.mp (fun q => c21 ((tI_gtn (by omega) (by omega)).mpr q))
        refine z_aload_n C d_P_setDerivative_24 rfl rfl ?_
        refine z_get C in_P ((zU_ne (by omega)).trans ha0) rfl 0 (by decide) fl_P_15 rfl rfl d_P_setDerivative_25 ?_
        refine z_iload_n C d_P_setDerivative_28 rfl rfl ?_
        refine z_aload_n C d_P_setDerivative_29 rfl rfl ?_
        refine z_iload_n C d_P_setDerivative_30 rfl rfl ?_
        refine z_iconst (v := 1) C d_P_setDerivative_31 (by decide) ?_
        refine z_iadd C d_P_setDerivative_32 ?_
        refine z_top (y := nI (i + 1)) (nI_1 i) ?_
        refine z_callV (rest := [.int (nI i), .ref (a + 1)]) (n := 1) (As := [.int (nI (i + 1))]) C (p_get E X.2.1 sz _ (i + 1) (by omega) (zp_kept hb (zU_ne (by omega)) (zU_ne (by omega)))) ⟨z_cb C k_P_get ml_P_19 ii_P rfl rfl (by decide +kernel) ⟨by decide, by decide⟩, C.2.2.2.2.1 _ im_P_get, C.2.2.2.2.1 _ se_P_get⟩ ((zU_ne (by omega)).trans hb0) rfl rfl rfl (Nat.le_of_ble_eq_true rfl) d_P_setDerivative_33 ⟨by decide, by decide⟩ ?_
        intro v_33 s_33 M_33 hp_33
        obtain ⟨rfl, rfl, rfl⟩ := hp_33
        show Z _ _ _ _ _ _ _ _ 36 _ [.int (fI (B (i + 1))), .int (nI i), .ref (a + 1)]
        refine z_iload_n C d_P_setDerivative_36 rfl rfl ?_
        refine z_iconst (v := 1) C d_P_setDerivative_37 (by decide) ?_
        refine z_iadd C d_P_setDerivative_38 ?_
        refine z_top (y := nI (i + 1)) (nI_1 i) ?_
        refine z_imul C d_P_setDerivative_39 ?_
        refine z_sipush (v := 10007) C d_P_setDerivative_40 (by decide) ?_
        refine z_irem C d_P_setDerivative_43 (by decide) ?_
        refine z_top (y := fI (ps_der B i)) (fI_muln (by omega)) ?_
        refine z_iast C zU_eq 0 rfl i (rfl) (by omega) (by omega) d_P_setDerivative_44 ?_
        refine z_world zU_uu ?_
        refine z_iinc (v := nI (i + 1)) (L' := [(0, .ref a), (1, .ref b), (2, .int (tI m)), (3, .int (nI (i + 1)))]) C d_P_setDerivative_45 rfl (nI_1 i) (by decide) rfl ?_
        refine z_goto (tgt := 19) C d_P_setDerivative_48 (by decide) ?_
        exact ih (i + 1) _ (by omega) (by omega) (inv_up hg rfl)
  show Z X E 4 _ 0 0 sz M 0 [(0, .ref a), (1, .ref b)] []
  refine z_aload_n C d_P_setDerivative_0 rfl rfl ?_
  refine z_get C in_P hb0 rfl 1 (by decide) fl_P_9 rfl rfl d_P_setDerivative_1 ?_
  refine z_iconst (v := 1) C d_P_setDerivative_4 (by decide) ?_
  refine z_isub C d_P_setDerivative_5 ?_
  refine z_top (y := tI m) (by rw [tI_s]; rfl) ?_
  refine z_aload_n C d_P_setDerivative_6 rfl rfl ?_
  refine z_get C in_P ha0 rfl 0 (by decide) fl_P_15 rfl rfl d_P_setDerivative_7 ?_
  refine z_alen (v := nI n) C ha1 0 rfl (rfl) d_P_setDerivative_10 ?_
  refine z_iconst (v := 1) C d_P_setDerivative_11 (by decide) ?_
  refine z_isub C d_P_setDerivative_12 ?_
  refine z_mmin C ml_P_23 sm_jM_min ii_jM k_jM_min (by decide) (Nat.le_of_ble_eq_true rfl) (Nat.zero_le _) (Nat.zero_le _) d_P_setDerivative_13 ?_
  refine z_top (y := tI m) (tI_min (k := m) (m := n) (by omega) (by omega) hmn) ?_
  refine z_istore_n (L' := [(0, .ref a), (1, .ref b), (2, .int (tI m))]) C d_P_setDerivative_16 rfl (by decide) rfl ?_
  refine z_iconst (v := nI 0) C d_P_setDerivative_17 (by decide) ?_
  refine z_istore_n (L' := [(0, .ref a), (1, .ref b), (2, .int (tI m)), (3, .int (nI 0))]) C d_P_setDerivative_18 rfl (by decide) rfl ?_
  refine z_world (zU_id (a := a + 1) (e := .inl (E.2.1 0, n, .inl f)) ha1).symm ?_
  exact loop (m + 1) 0 f (by omega) (by omega) (fun j hj => absurd hj (by omega))
theorem p_setDerivative (E : zE) (l : Launch) (sz : Nat) (M : zM) {a n k b nb kb : Nat} {P B : PS} (ha : zp E M a n k P) (hb : zp E M b nb kb B) (hne : a ≠ b) (hk : kb ≤ n + 1) : zMet E l y_P_setDerivative c_P_setDerivative 4 none { frames := 1, cells := 0, slots := 0, locals := 22 } 0 0 [.ref a, .ref b] sz M (fun v s M' => none = v ∧ sz = s ∧ (∃ k', zp E M' a n k' (ps_der B)) ∧ zout M M' a) := by
  cases kb with
  | zero => exact p_setDer0 E l sz M ha hb hne
  | succ m => exact p_setDerS E l sz M ha hb hne (by omega)
