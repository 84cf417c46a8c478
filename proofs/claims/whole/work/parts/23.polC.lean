set_option maxHeartbeats 4000000 in
/-- Polynomial.trimFrom of a number below 0 -/
theorem p_trimNeg (E : zE) (l : Launch) (sz : Nat) (M : zM) {a n : Nat} {t x : Int32} {f : Nat → Int32} {P : PS} (ha0 : M a = some (.inr (3, [.ref (a + 1), .int t]))) (ha1 : M (a + 1) = some (.inl (E.2.1 0, n, .inl f))) (hx : x < 0) (hn : n < 1000) (hP : ∀ i, P i = 0) : zMet E l y_P_trimFrom c_P_trimFrom 3 none { frames := 0, cells := 0, slots := 0, locals := 0 } 0 0 [.ref a, .int x] sz M (fun v s M' => none = v ∧ sz = s ∧ (∃ k, zp E M' a n k P) ∧ zout M M' a) := by
  refine zMet.ofZ (by decide) (Nat.le_of_ble_eq_true rfl) ?_
  intro X hl hini C
  show Z X E 3 _ 0 0 sz M 0 [(0, .ref a), (1, .int x)] []
  refine z_aload_n C d_P_trimFrom_0 rfl rfl ?_
  refine z_iconst (v := tI 0) C d_P_trimFrom_1 (by decide) ?_
  refine z_put C in_P ty_P tok_P nm_P ha0 rfl 1 (by decide) fl_P_9 rfl rfl rfl (rfl) (rfl) (Nat.le_of_ble_eq_true rfl) d_P_trimFrom_2 ?_
  show Z _ _ _ _ _ _ _ (zU M a (.inr (3, [.ref (a + 1), .int (tI 0)]))) _ _ _
  refine z_iload_n C d_P_trimFrom_5 rfl rfl ?_
  refine z_istore_n (L' := [(0, .ref a), (1, .int x), (2, .int x)]) C d_P_trimFrom_6 rfl (by decide) rfl ?_
  refine z_iload_n C d_P_trimFrom_7 rfl rfl ?_
  refine z_if_lt (tgt := 38) C d_P_trimFrom_8 (by decide) (fun _ => ?_) (fun c_8 => absurd (hx) c_8)
  exact z_vret C ⟨rfl, rfl, ⟨0, f, zU_eq, (zU_ne (by omega)).trans ha1, ⟨fun i _ => hP i, fun m hm => absurd hm (by omega), fun i hi => absurd hi (by omega)⟩, by omega, hn⟩, zout_u0⟩ d_P_trimFrom_38
set_option maxHeartbeats 4000000 in
/-- Polynomial.copy -/
theorem p_copy (E : zE) (l : Launch) (sz : Nat) (M : zM) {a n k b nb kb : Nat} {P B : PS} (ha : zp E M a n k P) (hb : zp E M b nb kb B) (hne : a ≠ b) (hk : kb ≤ n) : zMet E l y_P_copy c_P_copy 3 none { frames := 1, cells := 0, slots := 0, locals := 21 } 0 0 [.ref a, .ref b] sz M (fun v s M' => none = v ∧ sz = s ∧ zp E M' a n kb B ∧ zout M M' a) := by
  obtain ⟨f, ha0, ha1, hr, hkn, hn⟩ := id ha
  obtain ⟨fb, hb0, hb1, hrb, hknb, hnb⟩ := id hb
  have eab := z_apart ha1 hb0
  have eba := z_apart hb1 ha0
  refine zMet.ofZ (by decide) (Nat.le_of_ble_eq_true rfl) ?_
  intro X hl hini C
  have loop : ∀ (m i : Nat) (g : Nat → Int32), i ≤ kb → kb + 1 ≤ i + m → (∀ j, j < i → g j = fI (B j)) → Z X E 3 (zQ X E 0 0 (fun v s M' => none = v ∧ sz = s ∧ zp E M' a n kb B ∧ zout M M' a)) 0 0 sz (zU (zU M a (.inr (3, [.ref (a + 1), .int (tI kb)]))) (a + 1) (.inl (E.2.1 0, n, .inl g))) 20 [(0, .ref a), (1, .ref b), (2, .int (nI i))] [] := by
    intro m
    induction m with
    | zero => intro i g h1 h2; omega
    | succ m ih =>
      intro i g hi hm hg
      refine z_iload_n C d_P_copy_20 rfl rfl ?_
      refine z_aload_n C d_P_copy_21 rfl rfl ?_
      refine z_get C in_P ((zU_ne (by omega)).trans zU_eq) rfl 1 (by decide) fl_P_9 rfl rfl d_P_copy_22 ?_
      refine z_icmp_gt (tgt := 46) C d_P_copy_25 (by decide) (fun c25 => ?_) (fun c25 => ?_)
      · have c25 := (tI_gtn (by omega) (by omega)).mp c25
        exact z_vret C ⟨rfl, rfl, ⟨g, (zU_ne (by omega)).trans zU_eq, zU_eq, ⟨hrb.1, hrb.2.1, fun j hj => hg j (by omega)⟩, hk, hn⟩, zout_uu⟩ d_P_copy_46
      · have c25 : i < kb := Nat.not_le.mp (fun q => c25 ((tI_gtn (by omega) (by omega)).mpr q))
        refine z_aload_n C d_P_copy_28 rfl rfl ?_
        refine z_get C in_P ((zU_ne (by omega)).trans zU_eq) rfl 0 (by decide) fl_P_15 rfl rfl d_P_copy_29 ?_
        refine z_iload_n C d_P_copy_32 rfl rfl ?_
        refine z_aload_n C d_P_copy_33 rfl rfl ?_
        refine z_get C in_P ((zU_ne (by omega)).trans ((zU_ne (by omega)).trans hb0)) rfl 0 (by decide) fl_P_15 rfl rfl d_P_copy_34 ?_
        refine z_iload_n C d_P_copy_37 rfl rfl ?_
        refine z_iald C ((zU_ne (by omega)).trans ((zU_ne (by omega)).trans hb1)) 0 rfl i (rfl) (by omega) (by omega) d_P_copy_38 ?_
        refine z_top (y := fI (B i)) (hrb.2.2 i c25) ?_
        refine z_iast C zU_eq 0 rfl i (rfl) (by omega) (by omega) d_P_copy_39 ?_
        refine z_world zU_uu ?_
        refine z_iinc (v := nI (i + 1)) (L' := [(0, .ref a), (1, .ref b), (2, .int (nI (i + 1)))]) C d_P_copy_40 rfl (nI_1 i) (by decide) rfl ?_
        refine z_goto (tgt := 20) C d_P_copy_43 (by decide) ?_
        exact ih (i + 1) _ (by omega) (by omega) (inv_up hg rfl)
  show Z X E 3 _ 0 0 sz M 0 [(0, .ref a), (1, .ref b)] []
  refine z_aload_n C d_P_copy_0 rfl rfl ?_
  refine z_aload_n C d_P_copy_1 rfl rfl ?_
  refine z_get C in_P hb0 rfl 1 (by decide) fl_P_9 rfl rfl d_P_copy_2 ?_
  refine z_aload_n C d_P_copy_5 rfl rfl ?_
  refine z_get C in_P ha0 rfl 0 (by decide) fl_P_15 rfl rfl d_P_copy_6 ?_
  refine z_alen (v := nI n) C ha1 0 rfl (rfl) d_P_copy_9 ?_
  refine z_iconst (v := 1) C d_P_copy_10 (by decide) ?_
  refine z_isub C d_P_copy_11 ?_
  refine z_mmin C ml_P_23 sm_jM_min ii_jM k_jM_min (by decide) (Nat.le_of_ble_eq_true rfl) (Nat.zero_le _) (Nat.zero_le _) d_P_copy_12 ?_
  refine z_top (y := tI kb) (if_neg (fun q => absurd ((tI_lt (n := n) (m := kb) (by omega) (by omega)).mp q) (by omega))) ?_
  refine z_put C in_P ty_P tok_P nm_P ha0 rfl 1 (by decide) fl_P_9 rfl rfl rfl (rfl) (rfl) (Nat.le_of_ble_eq_true rfl) d_P_copy_15 ?_
  show Z _ _ _ _ _ _ _ (zU M a (.inr (3, [.ref (a + 1), .int (tI kb)]))) _ _ _
  refine z_iconst (v := nI 0) C d_P_copy_18 (by decide) ?_
  refine z_istore_n (L' := [(0, .ref a), (1, .ref b), (2, .int (nI 0))]) C d_P_copy_19 rfl (by decide) rfl ?_
  refine z_world (zU_id (a := a + 1) (e := .inl (E.2.1 0, n, .inl f)) ((zU_ne (by omega)).trans ha1)).symm ?_
  exact loop (kb + 1) 0 f (by omega) (by omega) (fun j hj => absurd hj (by omega))
set_option maxHeartbeats 4000000 in
/-- Polynomial.isSame -/
theorem p_isSame (E : zE) (l : Launch) (sz : Nat) (M : zM) {a n k b nb kb : Nat} {P B : PS} (ha : zp E M a n k P) (hb : zp E M b nb kb B) : zMet E l y_P_isSame c_P_isSame 3 (some .boolean) { frames := 1, cells := 0, slots := 0, locals := 21 } 0 0 [.ref a, .ref b] sz M (fun v s M' => sz = s ∧ M = M' ∧ ((P = B ∧ some (.int 1) = v) ∨ (P ≠ B ∧ some (.int 0) = v))) := by
  obtain ⟨f, ha0, ha1, hr, hkn, hn⟩ := id ha
  obtain ⟨fb, hb0, hb1, hrb, hknb, hnb⟩ := id hb
  refine zMet.ofZ (by decide) (Nat.le_of_ble_eq_true rfl) ?_
  intro X hl hini C
  have loop : k = kb → ∀ (m i : Nat), i ≤ k → k + 1 ≤ i + m → (∀ j, j < i → P j = B j) → Z X E 3 (zQ X E 0 0 (fun v s M' => sz = s ∧ M = M' ∧ ((P = B ∧ some (.int 1) = v) ∨ (P ≠ B ∧ some (.int 0) = v)))) 0 0 sz M 15 [(0, .ref a), (1, .ref b), (2, .int (nI i))] [] := by
    intro hkk m
    induction m with
    | zero => intro i h1 h2; omega
    | succ m ih =>
      intro i hi hm hg
      refine z_iload_n C d_P_isSame_15 rfl rfl ?_
      refine z_aload_n C d_P_isSame_16 rfl rfl ?_
      refine z_get C in_P ha0 rfl 1 (by decide) fl_P_9 rfl rfl d_P_isSame_17 ?_
      refine z_icmp_gt (tgt := 45) C d_P_isSame_20 (by decide) (fun c20 => ?_) (fun c20 => ?_)
      · have c20 := (tI_gtn (by omega) (by omega)).mp c20
        have hPB : P = B := by
          funext j
          rcases Nat.lt_or_ge j k with q | q
          · exact hg j (by omega)
          · rw [hr.1 j q, hrb.1 j (by omega)]
        refine z_iconst (v := 1) C d_P_isSame_45 (by decide) ?_
        exact z_zret C rfl ⟨rfl, rfl, Or.inl ⟨hPB, rfl⟩⟩ d_P_isSame_46
      · have c20 : i < k := Nat.not_le.mp (fun q => c20 ((tI_gtn (by omega) (by omega)).mpr q))
        refine z_aload_n C d_P_isSame_23 rfl rfl ?_
        refine z_get C in_P ha0 rfl 0 (by decide) fl_P_15 rfl rfl d_P_isSame_24 ?_
        refine z_iload_n C d_P_isSame_27 rfl rfl ?_
        refine z_iald C ha1 0 rfl i (rfl) (by omega) (by omega) d_P_isSame_28 ?_
        refine z_top (y := fI (P i)) (hr.2.2 i c20) ?_
        refine z_aload_n C d_P_isSame_29 rfl rfl ?_
        refine z_iload_n C d_P_isSame_30 rfl rfl ?_
        refine z_callV (rest := [.int (fI (P i))]) (n := 1) (As := [.int (nI i)]) C (p_get E X.2.1 sz M i (by omega) hb) ⟨z_cb C k_P_get ml_P_19 ii_P rfl rfl (by decide +kernel) ⟨by decide, by decide⟩, C.2.2.2.2.1 _ im_P_get, C.2.2.2.2.1 _ se_P_get⟩ hb0 rfl rfl rfl (Nat.le_of_ble_eq_true rfl) d_P_isSame_31 ⟨by decide, by decide⟩ ?_
        intro v_31 s_31 M_31 hp_31
        obtain ⟨rfl, rfl, rfl⟩ := hp_31
        show Z _ _ _ _ _ _ _ _ 34 _ [.int (fI (B i)), .int (fI (P i))]
        refine z_icmp_eq (tgt := 39) C d_P_isSame_34 (by decide) (fun c34 => ?_) (fun c34 => ?_)
        · have c34 : P i = B i := fI_inj.mp c34
          refine z_iinc (v := nI (i + 1)) (L' := [(0, .ref a), (1, .ref b), (2, .int (nI (i + 1)))]) C d_P_isSame_39 rfl (nI_1 i) (by decide) rfl ?_
          refine z_goto (tgt := 15) C d_P_isSame_42 (by decide) ?_
          exact ih (i + 1) (by omega) (by omega) (fun j hj => by
            rcases Nat.lt_or_ge j i with q | q
            · exact hg j q
            · rw [show j = i by omega]; exact c34)
        · have hPB : P ≠ B := fun q => c34 (by rw [q])
          refine z_iconst (v := 0) C d_P_isSame_37 (by decide) ?_
          exact z_zret C rfl ⟨rfl, rfl, Or.inr ⟨hPB, rfl⟩⟩ d_P_isSame_38
  show Z X E 3 _ 0 0 sz M 0 [(0, .ref a), (1, .ref b)] []
  refine z_aload_n C d_P_isSame_0 rfl rfl ?_
  refine z_get C in_P ha0 rfl 1 (by decide) fl_P_9 rfl rfl d_P_isSame_1 ?_
  refine z_aload_n C d_P_isSame_4 rfl rfl ?_
  refine z_get C in_P hb0 rfl 1 (by decide) fl_P_9 rfl rfl d_P_isSame_5 ?_
  refine z_icmp_eq (tgt := 13) C d_P_isSame_8 (by decide) (fun c8 => ?_) (fun c8 => ?_)
  · have c8 := (tI_eq (by omega) (by omega)).mp c8
    refine z_iconst (v := nI 0) C d_P_isSame_13 (by decide) ?_
    refine z_istore_n (L' := [(0, .ref a), (1, .ref b), (2, .int (nI 0))]) C d_P_isSame_14 rfl (by decide) rfl ?_
    exact loop c8 (k + 1) 0 (by omega) (by omega) (fun j hj => absurd hj (by omega))
  · have hPB : P ≠ B := fun q => c8 (by
      subst q
      rw [rep_un hr hrb])
    refine z_iconst (v := 0) C d_P_isSame_11 (by decide) ?_
    exact z_zret C rfl ⟨rfl, rfl, Or.inr ⟨hPB, rfl⟩⟩ d_P_isSame_12
set_option maxHeartbeats 4000000 in
/-- Polynomial.scale -/
theorem p_scale (E : zE) (l : Launch) (sz : Nat) (M : zM) {a n k : Nat} {P : PS} (ha : zp E M a n k P) (c : FF) : zMet E l y_P_scale c_P_scale 3 none { frames := 1, cells := 0, slots := 0, locals := 22 } 0 0 [.ref a, .int (fI c)] sz M (fun v s M' => none = v ∧ sz = s ∧ (∃ k', zp E M' a n k' (ps_mul (ps_C c) P)) ∧ zout M M' a) := by
  obtain ⟨f, ha0, ha1, hr, hkn, hn⟩ := id ha
  refine zMet.ofZ (by decide) (Nat.le_of_ble_eq_true rfl) ?_
  intro X hl hini C
  have loop : ∀ (m i : Nat) (g : Nat → Int32), i ≤ k → k + 1 ≤ i + m → (∀ j, j < i → g j = fI (ps_mul (ps_C c) P j)) → (∀ j, i ≤ j → g j = f j) → Z X E 3 (zQ X E 0 0 (fun v s M' => none = v ∧ sz = s ∧ (∃ k', zp E M' a n k' (ps_mul (ps_C c) P)) ∧ zout M M' a)) 0 0 sz (zU M (a + 1) (.inl (E.2.1 0, n, .inl g))) 2 [(0, .ref a), (1, .int (fI c)), (2, .int (nI i))] [] := by
    intro m
    induction m with
    | zero => intro i g h1 h2; omega
    | succ m ih =>
      intro i g hi hm hg hf
      refine z_iload_n C d_P_scale_2 rfl rfl ?_
      refine z_aload_n C d_P_scale_3 rfl rfl ?_
      refine z_get C in_P ((zU_ne (by omega)).trans ha0) rfl 1 (by decide) fl_P_9 rfl rfl d_P_scale_4 ?_
      refine z_icmp_gt (tgt := 34) C d_P_scale_7 (by decide) (fun c7 => ?_) (fun c7 => ?_)
      · have c7 := (tI_gtn (by omega) (by omega)).mp c7
        refine z_aload_n C d_P_scale_34 rfl rfl ?_
        refine z_aload_n C d_P_scale_35 rfl rfl ?_
        refine z_get C in_P ((zU_ne (by omega)).trans ha0) rfl 1 (by decide) fl_P_9 rfl rfl d_P_scale_36 ?_
        refine z_callV (rest := []) (n := 1) (As := [.int (tI k)]) C (p_trimFrom (P := ps_mul (ps_C c) P) E X.2.1 sz _ ((zU_ne (by omega)).trans ha0) zU_eq hkn hn (fun i hi => by simp only [ps_mul, ps_mC, hr.1 i hi]; grind) (fun i hi => hg i (by omega))) ⟨z_cb C k_P_trimFrom ml_P_33 ii_P rfl rfl (by decide +kernel) ⟨by decide, by decide⟩, C.2.2.2.2.1 _ im_P_trimFrom, C.2.2.2.2.1 _ se_P_trimFrom⟩ ((zU_ne (by omega)).trans ha0) rfl rfl rfl (Nat.le_of_ble_eq_true rfl) d_P_scale_39 ⟨by decide, by decide⟩ ?_
        intro v_39 s_39 M_39 hp_39
        obtain ⟨rfl, rfl, hz, ho⟩ := hp_39
        show Z _ _ _ _ _ _ _ _ 42 _ []
        exact z_vret C ⟨rfl, rfl, hz, zout_tr zout_u1 ho⟩ d_P_scale_42
      · have c7 : i < k := Nat.not_le.mp (fun q => c7 ((tI_gtn (by omega) (by omega)).mpr q))
        refine z_aload_n C d_P_scale_10 rfl rfl ?_
        refine z_get C in_P ((zU_ne (by omega)).trans ha0) rfl 0 (by decide) fl_P_15 rfl rfl d_P_scale_11 ?_
        refine z_iload_n C d_P_scale_14 rfl rfl ?_
        refine z_aload_n C d_P_scale_15 rfl rfl ?_
        refine z_get C in_P ((zU_ne (by omega)).trans ha0) rfl 0 (by decide) fl_P_15 rfl rfl d_P_scale_16 ?_
        refine z_iload_n C d_P_scale_19 rfl rfl ?_
        refine z_iald C zU_eq 0 rfl i (rfl) (by omega) (by omega) d_P_scale_20 ?_
        refine z_top (y := fI (P i)) ((hf i (Nat.le_refl i)).trans (hr.2.2 i c7)) ?_
        refine z_iload_n C d_P_scale_21 rfl rfl ?_
        refine z_imul C d_P_scale_22 ?_
        refine z_sipush (v := 10007) C d_P_scale_23 (by decide) ?_
        refine z_irem C d_P_scale_26 (by decide) ?_
        refine z_top (y := fI (ps_mul (ps_C c) P i)) (by rw [fI_mul, ff_cm]; simp only [ps_mul, ps_mC]) ?_
        refine z_iast C zU_eq 0 rfl i (rfl) (by omega) (by omega) d_P_scale_27 ?_
        refine z_world zU_uu ?_
        refine z_iinc (v := nI (i + 1)) (L' := [(0, .ref a), (1, .int (fI c)), (2, .int (nI (i + 1)))]) C d_P_scale_28 rfl (nI_1 i) (by decide) rfl ?_
        refine z_goto (tgt := 2) C d_P_scale_31 (by decide) ?_
        exact ih (i + 1) _ (by omega) (by omega) (inv_up hg rfl) (inv_keep hf)
  show Z X E 3 _ 0 0 sz M 0 [(0, .ref a), (1, .int (fI c))] []
  refine z_iconst (v := nI 0) C d_P_scale_0 (by decide) ?_
  refine z_istore_n (L' := [(0, .ref a), (1, .int (fI c)), (2, .int (nI 0))]) C d_P_scale_1 rfl (by decide) rfl ?_
  refine z_world (zU_id (a := a + 1) (e := .inl (E.2.1 0, n, .inl f)) ha1).symm ?_
  exact loop (k + 1) 0 f (by omega) (by omega) (fun j hj => absurd hj (by omega)) (fun _ _ => rfl)
set_option maxHeartbeats 4000000 in
/-- Polynomial.valueAt -/
theorem p_valueAt (E : zE) (l : Launch) (sz : Nat) (M : zM) {a n k : Nat} {P : PS} (ha : zp E M a n k P) (c : FF) : zMet E l y_P_valueAt c_P_valueAt 4 (some .int) { frames := 0, cells := 0, slots := 0, locals := 0 } 0 0 [.ref a, .int (fI c)] sz M (zRet (some (.int (fI (ev k P c)))) sz M) := by
  obtain ⟨f, ha0, ha1, hr, hkn, hn⟩ := id ha
  refine zMet.ofZ (by decide) (Nat.le_of_ble_eq_true rfl) ?_
  intro X hl hini C
  have loop : ∀ (i : Nat), i ≤ k → Z X E 4 (zQ X E 0 0 (zRet (some (.int (fI (ev k P c)))) sz M)) 0 0 sz M 7 [(0, .ref a), (1, .int (fI c)), (2, .int (fI (ev (k - i) (fun j => P (i + j)) c))), (3, .int (tI i))] [] := by
    intro i
    induction i with
    | zero =>
      intro hi
      refine z_iload_n C d_P_valueAt_7 rfl rfl ?_
      refine z_if_lt (tgt := 32) C d_P_valueAt_8 (by decide) (fun _ => ?_) (fun c_8 => absurd (by decide) c_8)
      refine z_iload_n C d_P_valueAt_32 rfl rfl ?_
      exact z_iret C ⟨by rw [Nat.sub_zero, show (fun j => P (0 + j)) = P by funext j; rw [Nat.zero_add]], rfl, rfl⟩ d_P_valueAt_33
    | succ i ih =>
      intro hi
      have e : ev (k - i) (fun j => P (i + j)) c = P i + c * ev (k - (i + 1)) (fun j => P (i + 1 + j)) c := by
        rw [show k - i = (k - (i + 1)) + 1 by omega, ev]
        rw [show ps_sh (fun j => P (i + j)) = (fun j => P (i + 1 + j)) by funext j; simp only [ps_sh]; congr 1; omega]
        rw [Nat.add_zero]
      refine z_iload_n C d_P_valueAt_7 rfl rfl ?_
      refine z_if_lt (tgt := 32) C d_P_valueAt_8 (by decide) (fun c_8 => absurd c_8 (by rw [tI_s]; exact nI_pos (by omega))) (fun _ => ?_)
      refine z_iload_n C d_P_valueAt_11 rfl rfl ?_
      refine z_iload_n C d_P_valueAt_12 rfl rfl ?_
      refine z_imul C d_P_valueAt_13 ?_
      refine z_aload_n C d_P_valueAt_14 rfl rfl ?_
      refine z_get C in_P ha0 rfl 0 (by decide) fl_P_15 rfl rfl d_P_valueAt_15 ?_
      refine z_iload_n C d_P_valueAt_18 rfl rfl ?_
      refine z_iald C ha1 0 rfl i (tI_s i) (by omega) (by omega) d_P_valueAt_19 ?_
      refine z_top (y := fI (P i)) (hr.2.2 i (by omega)) ?_
      refine z_iadd C d_P_valueAt_20 ?_
      refine z_sipush (v := 10007) C d_P_valueAt_21 (by decide) ?_
      refine z_irem C d_P_valueAt_24 (by decide) ?_
      refine z_top (y := fI (ev (k - i) (fun j => P (i + j)) c)) (by rw [fI_madd', e]; congr 1; grind) ?_
      refine z_istore_n (L' := [(0, .ref a), (1, .int (fI c)), (2, .int (fI (ev (k - i) (fun j => P (i + j)) c))), (3, .int (tI (i + 1)))]) C d_P_valueAt_25 rfl (by decide) rfl ?_
      refine z_iinc (v := tI i) (L' := [(0, .ref a), (1, .int (fI c)), (2, .int (fI (ev (k - i) (fun j => P (i + j)) c))), (3, .int (tI i))]) C d_P_valueAt_26 rfl (tI_dec i) (by decide) rfl ?_
      refine z_goto (tgt := 7) C d_P_valueAt_29 (by decide) ?_
      exact ih (by omega)
  show Z X E 4 _ 0 0 sz M 0 [(0, .ref a), (1, .int (fI c))] []
  refine z_iconst (v := fI (ev (k - k) (fun j => P (k + j)) c)) C d_P_valueAt_0 (by rw [Nat.sub_self]; exact fI_0.symm) ?_
  refine z_istore_n (L' := [(0, .ref a), (1, .int (fI c)), (2, .int (fI (ev (k - k) (fun j => P (k + j)) c)))]) C d_P_valueAt_1 rfl (by decide) rfl ?_
  refine z_aload_n C d_P_valueAt_2 rfl rfl ?_
  refine z_get C in_P ha0 rfl 1 (by decide) fl_P_9 rfl rfl d_P_valueAt_3 ?_
  refine z_istore_n (L' := [(0, .ref a), (1, .int (fI c)), (2, .int (fI (ev (k - k) (fun j => P (k + j)) c))), (3, .int (tI k))]) C d_P_valueAt_6 rfl (by decide) rfl ?_
  exact loop k (Nat.le_refl k)
