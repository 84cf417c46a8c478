set_option maxHeartbeats 4000000 in
/-- Polynomial.setProduct -/
theorem p_setProduct (E : zE) (l : Launch) (sz : Nat) (M : zM) {a n k b nb kb c nc kc : Nat} {P B D : PS} (ha : zp E M a n k P) (hb : zp E M b nb kb B) (hc : zp E M c nc kc D) (hne : a ≠ b) (hne2 : a ≠ c) (hk : kb + kc ≤ n + 1) : zMet E l y_P_setProduct c_P_setProduct 6 none { frames := 1, cells := 0, slots := 0, locals := 21 } 0 0 [.ref a, .ref b, .ref c] sz M (fun v s M' => none = v ∧ sz = s ∧ (∃ k', zp E M' a n k' (ps_mul B D)) ∧ zout M M' a) := by
  obtain ⟨f, ha0, ha1, hr, hkn, hn⟩ := id ha
  obtain ⟨fb, hb0, hb1, hrb, hknb, hnb⟩ := id hb
  obtain ⟨fc, hc0, hc1, hrc, hknc, hnc⟩ := id hc
  have eab := z_apart ha1 hb0
  have eba := z_apart hb1 ha0
  have eac := z_apart ha1 hc0
  have eca := z_apart hc1 ha0
  refine zMet.ofZ (by decide) (Nat.le_of_ble_eq_true rfl) ?_
  intro X hl hini C
  have big : 1 ≤ kb → 1 ≤ kc → ∀ K, K = kb + kc - 1 → ∀ g0 : Nat → Int32, Z X E 6 (zQ X E 0 0 (fun v s M' => none = v ∧ sz = s ∧ (∃ k', zp E M' a n k' (ps_mul B D)) ∧ zout M M' a)) 0 0 sz (zU (zU M a (.inr (3, [.ref (a + 1), .int (tI K)]))) (a + 1) (.inl (E.2.1 0, n, .inl g0))) 45 [(0, .ref a), (1, .ref b), (2, .ref c), (3, .int (nI 0))] [] := by
    intro hb1' hc1' K hK g0
    have inner : ∀ i, i < kb → B i ≠ 0 → (∀ g : Nat → Int32, (∀ t, t < K → g t = fI (pacc B D (i + 1) 0 t)) → Z X E 6 (zQ X E 0 0 (fun v s M' => none = v ∧ sz = s ∧ (∃ k', zp E M' a n k' (ps_mul B D)) ∧ zout M M' a)) 0 0 sz (zU (zU M a (.inr (3, [.ref (a + 1), .int (tI K)]))) (a + 1) (.inl (E.2.1 0, n, .inl g))) 151 [(0, .ref a), (1, .ref b), (2, .ref c), (3, .int (nI i))] []) → ∀ (m j : Nat) (g : Nat → Int32), j ≤ kc → kc + 1 ≤ j + m → (∀ t, t < K → g t = fI (pacc B D i j t)) → Z X E 6 (zQ X E 0 0 (fun v s M' => none = v ∧ sz = s ∧ (∃ k', zp E M' a n k' (ps_mul B D)) ∧ zout M M' a)) 0 0 sz (zU (zU M a (.inr (3, [.ref (a + 1), .int (tI K)]))) (a + 1) (.inl (E.2.1 0, n, .inl g))) 87 [(0, .ref a), (1, .ref b), (2, .ref c), (3, .int (nI i)), (4, .int (fI (B i))), (5, .int (nI j))] [] := by
      intro i hi hBi kx m
      induction m with
      | zero => intro j g h1 h2; omega
      | succ m ih =>
        intro j g hj hm hg
        refine z_iload C d_P_setProduct_87 rfl ?_
        refine z_if_eq (tgt := 151) C d_P_setProduct_89 (by decide) (fun c_89 => absurd c_89 (fun q => hBi (fI_eq0.mp q))) (fun _ => ?_)
        refine z_iload C d_P_setProduct_92 rfl ?_
        refine z_aload_n C d_P_setProduct_94 rfl rfl ?_
        refine z_get C in_P ((zU_ne (by omega)).trans ((zU_ne (by omega)).trans hc0)) rfl 1 (by decide) fl_P_9 rfl rfl d_P_setProduct_95 ?_
        refine z_icmp_gt (tgt := 151) C d_P_setProduct_98 (by decide) (fun c98 => ?_) (fun c98 => ?_)
        · have c98 := (tI_gtn (by omega) (by omega)).mp c98
          refine z_sub [0, 1, 2, 3] rfl ?_
          exact kx g (fun t ht => by rw [pacc_next hrc.1, show kc = j by omega]; exact hg t ht)
        · have c98 : j < kc := Nat.not_le.mp (fun q => c98 ((tI_gtn (by omega) (by omega)).mpr q))
          refine z_iload_n C d_P_setProduct_101 rfl rfl ?_
          refine z_iload C d_P_setProduct_102 rfl ?_
          refine z_iadd C d_P_setProduct_104 ?_
          refine z_top (y := nI (i + j)) (nI_add i j) ?_
          refine z_aload_n C d_P_setProduct_105 rfl rfl ?_
          refine z_get C in_P ((zU_ne (by omega)).trans zU_eq) rfl 1 (by decide) fl_P_9 rfl rfl d_P_setProduct_106 ?_
          refine z_icmp_gt (tgt := 151) C d_P_setProduct_109 (by decide) (fun c_109 => absurd c_109 (fun q => absurd ((tI_gtn (by omega) (by omega)).mp q) (by omega))) (fun _ => ?_)
          refine z_aload_n C d_P_setProduct_112 rfl rfl ?_
          refine z_get C in_P ((zU_ne (by omega)).trans zU_eq) rfl 0 (by decide) fl_P_15 rfl rfl d_P_setProduct_113 ?_
          refine z_iload_n C d_P_setProduct_116 rfl rfl ?_
          refine z_iload C d_P_setProduct_117 rfl ?_
          refine z_iadd C d_P_setProduct_119 ?_
          refine z_top (y := nI (i + j)) (nI_add i j) ?_
          refine z_aload_n C d_P_setProduct_120 rfl rfl ?_
          refine z_get C in_P ((zU_ne (by omega)).trans zU_eq) rfl 0 (by decide) fl_P_15 rfl rfl d_P_setProduct_121 ?_
          refine z_iload_n C d_P_setProduct_124 rfl rfl ?_
          refine z_iload C d_P_setProduct_125 rfl ?_
          refine z_iadd C d_P_setProduct_127 ?_
          refine z_top (y := nI (i + j)) (nI_add i j) ?_
          refine z_iald C zU_eq 0 rfl (i + j) (rfl) (by omega) (by omega) d_P_setProduct_128 ?_
          refine z_top (y := fI (pacc B D i j (i + j))) (hg (i + j) (by omega)) ?_
          refine z_iload C d_P_setProduct_129 rfl ?_
          refine z_aload_n C d_P_setProduct_131 rfl rfl ?_
          refine z_get C in_P ((zU_ne (by omega)).trans ((zU_ne (by omega)).trans hc0)) rfl 0 (by decide) fl_P_15 rfl rfl d_P_setProduct_132 ?_
          refine z_iload C d_P_setProduct_135 rfl ?_
          refine z_iald C ((zU_ne (by omega)).trans ((zU_ne (by omega)).trans hc1)) 0 rfl j (rfl) (by omega) (by omega) d_P_setProduct_137 ?_
          refine z_top (y := fI (D j)) (hrc.2.2 j c98) ?_
          refine z_imul C d_P_setProduct_138 ?_
          refine z_iadd C d_P_setProduct_139 ?_
          refine z_sipush (v := 10007) C d_P_setProduct_140 (by decide) ?_
          refine z_irem C d_P_setProduct_143 (by decide) ?_
          refine z_top (y := fI (pacc B D i j (i + j) + B i * D j)) (fI_madd _ _ _) ?_
          refine z_iast C zU_eq 0 rfl (i + j) (rfl) (by omega) (by omega) d_P_setProduct_144 ?_
          refine z_world zU_uu ?_
          refine z_iinc (v := nI (j + 1)) (L' := [(0, .ref a), (1, .ref b), (2, .ref c), (3, .int (nI i)), (4, .int (fI (B i))), (5, .int (nI (j + 1)))]) C d_P_setProduct_145 rfl (nI_1 j) (by decide) rfl ?_
          refine z_goto (tgt := 87) C d_P_setProduct_148 (by decide) ?_
          refine ih (j + 1) _ (by omega) (by omega) (fun t ht => ?_)
          rw [pacc_step]
          by_cases q : t = i + j
          · rw [if_pos q, q, upd_eq]
          · rw [if_neg q, upd_ne q, hg t ht]
    have outer : ∀ (m i : Nat) (g : Nat → Int32), i ≤ kb → kb + 1 ≤ i + m → (∀ t, t < K → g t = fI (pacc B D i 0 t)) → Z X E 6 (zQ X E 0 0 (fun v s M' => none = v ∧ sz = s ∧ (∃ k', zp E M' a n k' (ps_mul B D)) ∧ zout M M' a)) 0 0 sz (zU (zU M a (.inr (3, [.ref (a + 1), .int (tI K)]))) (a + 1) (.inl (E.2.1 0, n, .inl g))) 68 [(0, .ref a), (1, .ref b), (2, .ref c), (3, .int (nI i))] [] := by
      intro m
      induction m with
      | zero => intro i g h1 h2; omega
      | succ m ih =>
        intro i g hi hm hg
        have next : i < kb → ∀ g' : Nat → Int32, (∀ t, t < K → g' t = fI (pacc B D (i + 1) 0 t)) → Z X E 6 (zQ X E 0 0 (fun v s M' => none = v ∧ sz = s ∧ (∃ k', zp E M' a n k' (ps_mul B D)) ∧ zout M M' a)) 0 0 sz (zU (zU M a (.inr (3, [.ref (a + 1), .int (tI K)]))) (a + 1) (.inl (E.2.1 0, n, .inl g'))) 151 [(0, .ref a), (1, .ref b), (2, .ref c), (3, .int (nI i))] [] := by
          intro hlt g' hg'
          refine z_iinc (v := nI (i + 1)) (L' := [(0, .ref a), (1, .ref b), (2, .ref c), (3, .int (nI (i + 1)))]) C d_P_setProduct_151 rfl (nI_1 i) (by decide) rfl ?_
          refine z_goto (tgt := 68) C d_P_setProduct_154 (by decide) ?_
          exact ih (i + 1) _ (by omega) (by omega) hg'
        refine z_iload_n C d_P_setProduct_68 rfl rfl ?_
        refine z_aload_n C d_P_setProduct_69 rfl rfl ?_
        refine z_get C in_P ((zU_ne (by omega)).trans ((zU_ne (by omega)).trans hb0)) rfl 1 (by decide) fl_P_9 rfl rfl d_P_setProduct_70 ?_
        refine z_icmp_gt (tgt := 157) C d_P_setProduct_73 (by decide) (fun c73 => ?_) (fun c73 => ?_)
        · have c73 := (tI_gtn (by omega) (by omega)).mp c73
          have tp := ps_top (m := kc - 1) (g := D) (fun j hj => hrc.1 j (by omega)) (n := kb - 1) (f := B) (fun j hj => hrb.1 j (by omega))
          refine z_vret C ⟨rfl, rfl, ⟨K, g, (zU_ne (by omega)).trans zU_eq, zU_eq, ⟨fun j hj => tp.2 j (by omega), fun m hm => ?_, fun t ht => by rw [hg t (by omega), show i = kb by omega, pacc_end hrb.1]⟩, by omega, hn⟩, zout_uu⟩ d_P_setProduct_157
          rw [show m = kb - 1 + (kc - 1) by omega]
          show ps_m _ _ _ ≠ 0
          rw [tp.1]
          exact ff_mul_ne (hrb.2.1 _ (by omega)) (hrc.2.1 _ (by omega))
        · have c73 : i < kb := Nat.not_le.mp (fun q => c73 ((tI_gtn (by omega) (by omega)).mpr q))
          refine z_aload_n C d_P_setProduct_76 rfl rfl ?_
          refine z_get C in_P ((zU_ne (by omega)).trans ((zU_ne (by omega)).trans hb0)) rfl 0 (by decide) fl_P_15 rfl rfl d_P_setProduct_77 ?_
          refine z_iload_n C d_P_setProduct_80 rfl rfl ?_
          refine z_iald C ((zU_ne (by omega)).trans ((zU_ne (by omega)).trans hb1)) 0 rfl i (rfl) (by omega) (by omega) d_P_setProduct_81 ?_
          refine z_top (y := fI (B i)) (hrb.2.2 i c73) ?_
          refine z_istore (L' := [(0, .ref a), (1, .ref b), (2, .ref c), (3, .int (nI i)), (4, .int (fI (B i)))]) C d_P_setProduct_82 (by decide) rfl ?_
          refine z_iconst (v := nI 0) C d_P_setProduct_84 (by decide) ?_
          refine z_istore (L' := [(0, .ref a), (1, .ref b), (2, .ref c), (3, .int (nI i)), (4, .int (fI (B i))), (5, .int (nI 0))]) C d_P_setProduct_85 (by decide) rfl ?_
          by_cases hBi : B i = 0
          · refine z_iload C d_P_setProduct_87 rfl ?_
            refine z_if_eq (tgt := 151) C d_P_setProduct_89 (by decide) (fun _ => ?_) (fun q => absurd (fI_eq0.mpr hBi) q)
            refine z_sub [0, 1, 2, 3] rfl ?_
            exact next c73 g (fun t ht => by rw [pacc_skip hBi]; exact hg t ht)
          · exact inner i c73 hBi (next c73) (kc + 1) 0 g (by omega) (by omega) hg
    have zero : ∀ (m i : Nat) (g : Nat → Int32), i ≤ K → K + 1 ≤ i + m → (∀ t, t < i → g t = fI (pacc B D 0 0 t)) → Z X E 6 (zQ X E 0 0 (fun v s M' => none = v ∧ sz = s ∧ (∃ k', zp E M' a n k' (ps_mul B D)) ∧ zout M M' a)) 0 0 sz (zU (zU M a (.inr (3, [.ref (a + 1), .int (tI K)]))) (a + 1) (.inl (E.2.1 0, n, .inl g))) 45 [(0, .ref a), (1, .ref b), (2, .ref c), (3, .int (nI i))] [] := by
      intro m
      induction m with
      | zero => intro i g h1 h2; omega
      | succ m ih =>
        intro i g hi hm hg
        refine z_iload_n C d_P_setProduct_45 rfl rfl ?_
        refine z_aload_n C d_P_setProduct_46 rfl rfl ?_
        refine z_get C in_P ((zU_ne (by omega)).trans zU_eq) rfl 1 (by decide) fl_P_9 rfl rfl d_P_setProduct_47 ?_
        refine z_icmp_gt (tgt := 66) C d_P_setProduct_50 (by decide) (fun c50 => ?_) (fun c50 => ?_)
        · have c50 := (tI_gtn (by omega) (by omega)).mp c50
          refine z_iconst (v := nI 0) C d_P_setProduct_66 (by decide) ?_
          refine z_istore_n (L' := [(0, .ref a), (1, .ref b), (2, .ref c), (3, .int (nI 0))]) C d_P_setProduct_67 rfl (by decide) rfl ?_
          exact outer (kb + 1) 0 g (by omega) (by omega) (fun t ht => hg t (by omega))
        · have c50 : i < K := Nat.not_le.mp (fun q => c50 ((tI_gtn (by omega) (by omega)).mpr q))
          refine z_aload_n C d_P_setProduct_53 rfl rfl ?_
          refine z_get C in_P ((zU_ne (by omega)).trans zU_eq) rfl 0 (by decide) fl_P_15 rfl rfl d_P_setProduct_54 ?_
          refine z_iload_n C d_P_setProduct_57 rfl rfl ?_
          refine z_iconst (v := 0) C d_P_setProduct_58 (by decide) ?_
          refine z_iast C zU_eq 0 rfl i (rfl) (by omega) (by omega) d_P_setProduct_59 ?_
          refine z_world zU_uu ?_
          refine z_iinc (v := nI (i + 1)) (L' := [(0, .ref a), (1, .ref b), (2, .ref c), (3, .int (nI (i + 1)))]) C d_P_setProduct_60 rfl (nI_1 i) (by decide) rfl ?_
          refine z_goto (tgt := 45) C d_P_setProduct_63 (by decide) ?_
          exact ih (i + 1) _ (by omega) (by omega) (inv_up hg (by rw [pacc_0]; exact fI_0.symm))
    exact zero (K + 1) 0 g0 (by omega) (by omega) (fun t ht => absurd ht (by omega))
  show Z X E 6 _ 0 0 sz M 0 [(0, .ref a), (1, .ref b), (2, .ref c)] []
  refine z_aload_n C d_P_setProduct_0 rfl rfl ?_
  refine z_iconst (v := tI 0) C d_P_setProduct_1 (by decide) ?_
  refine z_put C in_P ty_P tok_P nm_P ha0 rfl 1 (by decide) fl_P_9 rfl rfl rfl (rfl) (rfl) (Nat.le_of_ble_eq_true rfl) d_P_setProduct_2 ?_
  show Z _ _ _ _ _ _ _ (zU M a (.inr (3, [.ref (a + 1), .int (tI 0)]))) _ _ _
  refine z_aload_n C d_P_setProduct_5 rfl rfl ?_
  refine z_callV (rest := []) (n := 0) (As := []) C (p_isZero E X.2.1 sz _ (zp_kept hb (zU_ne (by omega)) (zU_ne (by omega)))) ⟨z_cb C k_P_isZero ml_P_29 ii_P rfl rfl (by decide +kernel) ⟨by decide, by decide⟩, C.2.2.2.2.1 _ im_P_isZero, C.2.2.2.2.1 _ se_P_isZero⟩ ((zU_ne (by omega)).trans hb0) rfl rfl rfl (Nat.le_of_ble_eq_true rfl) d_P_setProduct_6 ⟨by decide, by decide⟩ ?_
  intro v_6 s_6 M_6 hp_6
  obtain ⟨rfl, rfl, rfl⟩ := hp_6
  show Z _ _ _ _ _ _ _ _ 9 _ [.int (if kb = 0 then 1 else 0)]
  refine z_if_ne (tgt := 19) C d_P_setProduct_9 (by decide) (fun c9 => ?_) (fun c9 => ?_)
  · have c9 : kb = 0 := by
      by_cases q : kb = 0
      · exact q
      · exact absurd (if_neg q) c9
    have hz : ∀ i, ps_mul B D i = 0 := fun i => ps_m0 (fun j => hrb.1 j (by omega))
    refine z_vret C ⟨rfl, rfl, ⟨0, f, zU_eq, (zU_ne (by omega)).trans ha1, ⟨fun i _ => hz i, fun m hm => absurd hm (by omega), fun i hi => absurd hi (by omega)⟩, by omega, hn⟩, zout_u0⟩ d_P_setProduct_19
  · have c9 : kb ≠ 0 := fun q => by rw [if_pos q] at c9; exact absurd c9 (by decide)
    refine z_aload_n C d_P_setProduct_12 rfl rfl ?_
    refine z_callV (rest := []) (n := 0) (As := []) C (p_isZero E X.2.1 sz _ (zp_kept hc (zU_ne (by omega)) (zU_ne (by omega)))) ⟨z_cb C k_P_isZero ml_P_29 ii_P rfl rfl (by decide +kernel) ⟨by decide, by decide⟩, C.2.2.2.2.1 _ im_P_isZero, C.2.2.2.2.1 _ se_P_isZero⟩ ((zU_ne (by omega)).trans hc0) rfl rfl rfl (Nat.le_of_ble_eq_true rfl) d_P_setProduct_13 ⟨by decide, by decide⟩ ?_
    intro v_13 s_13 M_13 hp_13
    obtain ⟨rfl, rfl, rfl⟩ := hp_13
    show Z _ _ _ _ _ _ _ _ 16 _ [.int (if kc = 0 then 1 else 0)]
    refine z_if_eq (tgt := 20) C d_P_setProduct_16 (by decide) (fun c16 => ?_) (fun c16 => ?_)
    · have c16 : kc ≠ 0 := fun q => by rw [if_pos q] at c16; exact absurd c16 (by decide)
      refine z_aload_n C d_P_setProduct_20 rfl rfl ?_
      refine z_aload_n C d_P_setProduct_21 rfl rfl ?_
      refine z_get C in_P ((zU_ne (by omega)).trans hb0) rfl 1 (by decide) fl_P_9 rfl rfl d_P_setProduct_22 ?_
      refine z_aload_n C d_P_setProduct_25 rfl rfl ?_
      refine z_get C in_P ((zU_ne (by omega)).trans hc0) rfl 1 (by decide) fl_P_9 rfl rfl d_P_setProduct_26 ?_
      refine z_iadd C d_P_setProduct_29 ?_
      refine z_top (y := tI (kb + kc - 1)) (tI_add (by omega) (by omega)) ?_
      refine z_aload_n C d_P_setProduct_30 rfl rfl ?_
      refine z_get C in_P zU_eq rfl 0 (by decide) fl_P_15 rfl rfl d_P_setProduct_31 ?_
      refine z_alen (v := nI n) C ((zU_ne (by omega)).trans ha1) 0 rfl (rfl) d_P_setProduct_34 ?_
      refine z_iconst (v := 1) C d_P_setProduct_35 (by decide) ?_
      refine z_isub C d_P_setProduct_36 ?_
      refine z_mmin C ml_P_23 sm_jM_min ii_jM k_jM_min (by decide) (Nat.le_of_ble_eq_true rfl) (Nat.zero_le _) (Nat.zero_le _) d_P_setProduct_37 ?_
      refine z_top (y := tI (kb + kc - 1)) (tI_min (k := kb + kc - 1) (m := n) (by omega) (by omega) (by omega)) ?_
      refine z_put C in_P ty_P tok_P nm_P zU_eq rfl 1 (by decide) fl_P_9 rfl rfl rfl (rfl) (rfl) (Nat.le_of_ble_eq_true rfl) d_P_setProduct_40 ?_
      show Z _ _ _ _ _ _ _ (zU (zU M a (.inr (3, [.ref (a + 1), .int (tI 0)]))) a (.inr (3, [.ref (a + 1), .int (tI (kb + kc - 1))]))) _ _ _
      refine z_world zU_uu ?_
      refine z_iconst (v := nI 0) C d_P_setProduct_43 (by decide) ?_
      refine z_istore_n (L' := [(0, .ref a), (1, .ref b), (2, .ref c), (3, .int (nI 0))]) C d_P_setProduct_44 rfl (by decide) rfl ?_
      refine z_world (zU_id (a := a + 1) (e := .inl (E.2.1 0, n, .inl f)) ((zU_ne (by omega)).trans ha1)).symm ?_
      exact big (by omega) (by omega) _ rfl f
    · have c16 : kc = 0 := by
        by_cases q : kc = 0
        · exact q
        · exact absurd (if_neg q) c16
      have hz : ∀ i, ps_mul B D i = 0 := fun i => (ps_m_cm (f := B)).trans (ps_m0 (fun j => hrc.1 j (by omega)))
      refine z_vret C ⟨rfl, rfl, ⟨0, f, zU_eq, (zU_ne (by omega)).trans ha1, ⟨fun i _ => hz i, fun m hm => absurd hm (by omega), fun i hi => absurd hi (by omega)⟩, by omega, hn⟩, zout_u0⟩ d_P_setProduct_19
set_option maxHeartbeats 4000000 in
/-- Polynomial(highest) -/
theorem p_init (E : zE) (l : Launch) (M : zM) {a h : Nat} (h0 : M a = some (.inr (3, [.null, .int 0]))) (hh : h < 900) : zMet E l y_P_init c_P_init 2 none { frames := 1, cells := 1, slots := h + 1, locals := 20 } 1 (h + 1) [.ref a, .int (nI h)] (a + 1) M (fun v s M' => none = v ∧ a + 2 = s ∧ zp E M' a (h + 1) 0 ps_0 ∧ zout M M' a) := by
  refine zMet.ofZ (by decide) (Nat.le_of_ble_eq_true rfl) ?_
  intro X hl hini C
  show Z X E 2 _ 0 0 (a + 1) M 0 [(0, .ref a), (1, .int (nI h))] []
  refine z_aload_n C d_P_init_0 rfl rfl ?_
  refine z_obj C ml_P_3 im_jO_init k_jO_init d_P_init_1 (Nat.le_of_ble_eq_true rfl) (Nat.le_of_ble_eq_true rfl) ?_
  refine z_aload_n C d_P_init_4 rfl rfl ?_
  refine z_iconst (v := tI 0) C d_P_init_5 (by decide) ?_
  refine z_put C in_P ty_P tok_P nm_P h0 rfl 1 (by decide) fl_P_9 rfl rfl rfl (rfl) (rfl) (Nat.le_of_ble_eq_true rfl) d_P_init_6 ?_
  show Z _ _ _ _ _ _ _ (zU M a (.inr (3, [.null, .int (tI 0)]))) _ _ _
  refine z_aload_n C d_P_init_9 rfl rfl ?_
  refine z_iload_n C d_P_init_10 rfl rfl ?_
  refine z_iconst (v := 1) C d_P_init_11 (by decide) ?_
  refine z_iadd C d_P_init_12 ?_
  refine z_top (y := nI (h + 1)) (nI_1 h) ?_
  refine z_newa (atype := .int) (a0 := (h + 1, .inl (fun _ => 0))) C ac_int rfl 0 rfl (fun _ q => by cases q) (h + 1) rfl (rfl) (by show (h + 1) * 4 ≤ _; omega) (by omega) (Nat.le_refl _) (by show 0 + (h + 1) ≤ h + 1; omega) d_P_init_13 ?_
  refine z_putF C in_P ty_P tok_P nm_P hini ((zU_ne (by omega)).trans zU_eq) rfl 0 (by decide) fl_P_15 rfl rfl rfl rfl (rfl) (rfl) (Nat.le_of_ble_eq_true rfl) d_P_init_15 ?_
  show Z _ _ _ _ _ _ _ (zU (zU (zU M a (.inr (3, [.null, .int (tI 0)]))) (a + 1) (.inl (E.2.1 0, h + 1, .inl (fun _ => 0)))) a (.inr (3, [.ref (a + 1), .int (tI 0)]))) _ _ _
  refine z_world (M' := zU (zU M a (.inr (3, [.ref (a + 1), .int (tI 0)]))) (a + 1) (.inl (E.2.1 0, h + 1, .inl (fun _ => 0)))) (by rw [zU_cm (by omega), zU_uu]) ?_
  refine z_widen (k := 1) (n := h + 1) (by omega) (by omega) ?_
  exact z_vret C ⟨rfl, rfl, ⟨_, (zU_ne (by omega)).trans zU_eq, zU_eq, ⟨fun i _ => rfl, fun m hm => absurd hm (by omega), fun i hi => absurd hi (by omega)⟩, by omega, by omega⟩, zout_uu⟩ d_P_init_18
