set_option maxHeartbeats 4000000 in
/-- Polynomial.divideBy -/
theorem p_divideBy (E : zE) (l : Launch) (sz : Nat) (M : zM) {a n k b nb lo c nc kc : Nat} {P B D : PS} (ha : zp E M a n k P) (hb : zp E M b nb (lo + 1) B) (hc : zp E M c nc kc D) (hB1 : B lo = 1) (hab : a ≠ b) (hac : a ≠ c) (hbc : b ≠ c) (hk : k - lo ≤ nc) : zMet E l y_P_divideBy c_P_divideBy 7 none { frames := 1, cells := 0, slots := 0, locals := 22 } 0 0 [.ref a, .ref b, .ref c] sz M (fun v s M' => none = v ∧ sz = s ∧ ∃ (Q R : PS) (kr kq : Nat), P = ps_add (ps_mul Q B) R ∧ (∀ j, lo ≤ j → R j = 0) ∧ zp E M' a n kr R ∧ zp E M' c nc kq Q ∧ ∀ q, q ≠ a → q ≠ a + 1 → q ≠ c → q ≠ c + 1 → M' q = M q) := by
  obtain ⟨f, ha0, ha1, hr, hkn, hn⟩ := id ha
  obtain ⟨fb, hb0, hb1, hrb, hknb, hnb⟩ := id hb
  obtain ⟨fc, hc0, hc1, hrc, hknc, hnc⟩ := id hc
  have eab := z_apart ha1 hb0
  have eba := z_apart hb1 ha0
  have eac := z_apart ha1 hc0
  have eca := z_apart hc1 ha0
  have ebc := z_apart hb1 hc0
  have ecb := z_apart hc1 hb0
  have hBz : ∀ j, lo < j → B j = 0 := fun j hj => hrb.1 j hj
  refine zMet.ofZ (by decide) (Nat.le_of_ble_eq_true rfl) ?_
  intro X hl hini C
  have inner : ∀ (t : Nat) (h : Nat → Int32) (R : PS), lo < k → t + lo < k → R (t + lo) ≠ 0 → (∀ g : Nat → Int32, (∀ s, s < k → g s = fI (if t ≤ s ∧ s < t + (lo + 1) then R s - R (t + lo) * B (s - t) else R s)) → Z X E 7 (zQ X E 0 0 (fun v s M' => none = v ∧ sz = s ∧ ∃ (Q R : PS) (kr kq : Nat), P = ps_add (ps_mul Q B) R ∧ (∀ j, lo ≤ j → R j = 0) ∧ zp E M' a n kr R ∧ zp E M' c nc kq Q ∧ ∀ q, q ≠ a → q ≠ a + 1 → q ≠ c → q ≠ c + 1 → M' q = M q)) 0 0 sz (zU (zU (zU M c (.inr (3, [.ref (c + 1), .int (tI (k - lo))]))) (c + 1) (.inl (E.2.1 0, nc, .inl h))) (a + 1) (.inl (E.2.1 0, n, .inl g))) 133 [(0, .ref a), (1, .ref b), (2, .ref c), (3, .int (nI lo)), (4, .int (tI (t + 1)))] []) → ∀ (m j : Nat) (g : Nat → Int32), j ≤ lo + 1 → lo + 2 ≤ j + m → (∀ s, s < k → g s = fI (if t ≤ s ∧ s < t + j then R s - R (t + lo) * B (s - t) else R s)) → Z X E 7 (zQ X E 0 0 (fun v s M' => none = v ∧ sz = s ∧ ∃ (Q R : PS) (kr kq : Nat), P = ps_add (ps_mul Q B) R ∧ (∀ j, lo ≤ j → R j = 0) ∧ zp E M' a n kr R ∧ zp E M' c nc kq Q ∧ ∀ q, q ≠ a → q ≠ a + 1 → q ≠ c → q ≠ c + 1 → M' q = M q)) 0 0 sz (zU (zU (zU M c (.inr (3, [.ref (c + 1), .int (tI (k - lo))]))) (c + 1) (.inl (E.2.1 0, nc, .inl h))) (a + 1) (.inl (E.2.1 0, n, .inl g))) 77 [(0, .ref a), (1, .ref b), (2, .ref c), (3, .int (nI lo)), (4, .int (tI (t + 1))), (5, .int (fI (R (t + lo)))), (6, .int (nI j))] [] := by
    intro t h R hlk htl hx kx m
    induction m with
    | zero => intro j g h1 h2; omega
    | succ m ih =>
      intro j g hj hm hg
      refine z_iload C d_P_divideBy_77 rfl ?_
      refine z_if_eq (tgt := 133) C d_P_divideBy_79 (by decide) (fun c_79 => absurd c_79 (fun q => hx (fI_eq0.mp q))) (fun _ => ?_)
      refine z_iload C d_P_divideBy_82 rfl ?_
      refine z_iload_n C d_P_divideBy_84 rfl rfl ?_
      refine z_icmp_gt (tgt := 133) C d_P_divideBy_85 (by decide) (fun c85 => ?_) (fun c85 => ?_)
      · have c85 := (nI_ltI (by omega) (by omega)).mp c85
        refine z_sub [0, 1, 2, 3, 4] rfl ?_
        exact kx g (fun s hs => by rw [hg s hs, show j = lo + 1 by omega])
      · have c85 : j ≤ lo := Nat.not_lt.mp (fun q => c85 ((nI_ltI (by omega) (by omega)).mpr q))
        refine z_aload_n C d_P_divideBy_88 rfl rfl ?_
        refine z_get C in_P ((zU_ne (by omega)).trans ((zU_ne (by omega)).trans ((zU_ne (by omega)).trans ha0))) rfl 0 (by decide) fl_P_15 rfl rfl d_P_divideBy_89 ?_
        refine z_iload C d_P_divideBy_92 rfl ?_
        refine z_iload C d_P_divideBy_94 rfl ?_
        refine z_iadd C d_P_divideBy_96 ?_
        refine z_top (y := nI (t + j)) (by rw [tI_s, nI_add]) ?_
        refine z_aload_n C d_P_divideBy_97 rfl rfl ?_
        refine z_get C in_P ((zU_ne (by omega)).trans ((zU_ne (by omega)).trans ((zU_ne (by omega)).trans ha0))) rfl 0 (by decide) fl_P_15 rfl rfl d_P_divideBy_98 ?_
        refine z_iload C d_P_divideBy_101 rfl ?_
        refine z_iload C d_P_divideBy_103 rfl ?_
        refine z_iadd C d_P_divideBy_105 ?_
        refine z_top (y := nI (t + j)) (by rw [tI_s, nI_add]) ?_
        refine z_iald C zU_eq 0 rfl (t + j) (rfl) (by omega) (by omega) d_P_divideBy_106 ?_
        refine z_top (y := fI (R (t + j))) (by rw [hg (t + j) (by omega), if_neg (by omega)]) ?_
        refine z_sipush (v := 10007) C d_P_divideBy_107 (by decide) ?_
        refine z_iload C d_P_divideBy_110 rfl ?_
        refine z_isub C d_P_divideBy_112 ?_
        refine z_aload_n C d_P_divideBy_113 rfl rfl ?_
        refine z_get C in_P ((zU_ne (by omega)).trans ((zU_ne (by omega)).trans ((zU_ne (by omega)).trans hb0))) rfl 0 (by decide) fl_P_15 rfl rfl d_P_divideBy_114 ?_
        refine z_iload C d_P_divideBy_117 rfl ?_
        refine z_iald C ((zU_ne (by omega)).trans ((zU_ne (by omega)).trans ((zU_ne (by omega)).trans hb1))) 0 rfl j (rfl) (by omega) (by omega) d_P_divideBy_119 ?_
        refine z_top (y := fI (B j)) (hrb.2.2 j (by omega)) ?_
        refine z_imul C d_P_divideBy_120 ?_
        refine z_iadd C d_P_divideBy_121 ?_
        refine z_sipush (v := 10007) C d_P_divideBy_122 (by decide) ?_
        refine z_irem C d_P_divideBy_125 (by decide) ?_
        refine z_top (y := fI (R (t + j) - R (t + lo) * B j)) (fI_msub _ _ _) ?_
        refine z_iast C zU_eq 0 rfl (t + j) (rfl) (by omega) (by omega) d_P_divideBy_126 ?_
        refine z_world zU_uu ?_
        refine z_iinc (v := nI (j + 1)) (L' := [(0, .ref a), (1, .ref b), (2, .ref c), (3, .int (nI lo)), (4, .int (tI (t + 1))), (5, .int (fI (R (t + lo)))), (6, .int (nI (j + 1)))]) C d_P_divideBy_127 rfl (nI_1 j) (by decide) rfl ?_
        refine z_goto (tgt := 77) C d_P_divideBy_130 (by decide) ?_
        refine ih (j + 1) _ (by omega) (by omega) (fun s hs => ?_)
        by_cases q : s = t + j
        · rw [q, upd_eq, if_pos (by omega), show t + j - t = j by omega]
        · rw [upd_ne q, hg s hs]
          by_cases q2 : t ≤ s ∧ s < t + j
          · rw [if_pos q2, if_pos (by omega)]
          · rw [if_neg q2, if_neg (by omega)]
  have loop : lo < k → ∀ (t : Nat), t ≤ k - lo → ∀ (g h : Nat → Int32) (Q R : PS), P = ps_add (ps_mul Q B) R → (∀ s, s < k → g s = fI (R s)) → (∀ s, t + lo ≤ s → R s = 0) → (∀ s, t ≤ s → s < k - lo → h s = fI (Q s)) → (∀ s, s < t → Q s = 0) → (∀ s, k - lo ≤ s → Q s = 0) → Z X E 7 (zQ X E 0 0 (fun v s M' => none = v ∧ sz = s ∧ ∃ (Q R : PS) (kr kq : Nat), P = ps_add (ps_mul Q B) R ∧ (∀ j, lo ≤ j → R j = 0) ∧ zp E M' a n kr R ∧ zp E M' c nc kq Q ∧ ∀ q, q ≠ a → q ≠ a + 1 → q ≠ c → q ≠ c + 1 → M' q = M q)) 0 0 sz (zU (zU (zU M c (.inr (3, [.ref (c + 1), .int (tI (k - lo))]))) (c + 1) (.inl (E.2.1 0, nc, .inl h))) (a + 1) (.inl (E.2.1 0, n, .inl g))) 49 [(0, .ref a), (1, .ref b), (2, .ref c), (3, .int (nI lo)), (4, .int (tI t))] [] := by
    intro hlk t
    induction t with
    | zero =>
      intro ht g h Q R hA hg hR hh hQ0 hQ1
      refine z_iload C d_P_divideBy_49 rfl ?_
      refine z_if_lt (tgt := 139) C d_P_divideBy_51 (by decide) (fun _ => ?_) (fun c_51 => absurd (by decide) c_51)
      refine z_aload_n C d_P_divideBy_139 rfl rfl ?_
      refine z_iload_n C d_P_divideBy_140 rfl rfl ?_
      refine z_iconst (v := 1) C d_P_divideBy_141 (by decide) ?_
      refine z_isub C d_P_divideBy_142 ?_
      refine z_top (y := tI lo) (rfl) ?_
      refine z_callV (rest := []) (n := 1) (As := [.int (tI lo)]) C (p_trimFrom (P := R) (m := lo) E X.2.1 sz _ ((zU_ne (by omega)).trans ((zU_ne (by omega)).trans ((zU_ne (by omega)).trans ha0))) zU_eq (by omega) hn (fun s hs => hR s (by omega)) (fun s hs => hg s (by omega))) ⟨z_cb C k_P_trimFrom ml_P_33 ii_P rfl rfl (by decide +kernel) ⟨by decide, by decide⟩, C.2.2.2.2.1 _ im_P_trimFrom, C.2.2.2.2.1 _ se_P_trimFrom⟩ ((zU_ne (by omega)).trans ((zU_ne (by omega)).trans ((zU_ne (by omega)).trans ha0))) rfl rfl rfl (Nat.le_of_ble_eq_true rfl) d_P_divideBy_143 ⟨by decide, by decide⟩ ?_
      intro v_143 s_143 M_143 hp_143
      obtain ⟨rfl, rfl, ⟨kr, hz⟩, ho⟩ := hp_143
      show Z _ _ _ _ _ _ _ _ 146 _ []
      refine z_vret C ⟨rfl, rfl, Q, R, kr, k - lo, hA, fun s hs => hR s (by omega), hz, ⟨h, ?_, ?_, ⟨hQ1, fun m hm => ?_, fun s hs => hh s (Nat.zero_le s) hs⟩, hk, hnc⟩, fun q q1 q2 q3 q4 => ?_⟩ d_P_divideBy_146
      · rw [ho c (by omega) (by omega)]; exact (zU_ne (by omega)).trans ((zU_ne (by omega)).trans zU_eq)
      · rw [ho (c + 1) (by omega) (by omega)]; exact (zU_ne (by omega)).trans zU_eq
      · rw [show m = k - lo - 1 by omega]; exact dv_top hlk hBz hB1 hA (fun s hs => hR s (by omega)) hQ1 (hr.2.1 _ (by omega))
      · rw [ho q q1 q2]; exact (zU_ne q2).trans ((zU_ne q4).trans (zU_ne q3))
    | succ t ih =>
      intro ht g h Q R hA hg hR hh hQ0 hQ1
      obtain ⟨s1, s2, s3⟩ := dv_step (t := t) hBz hB1 hA hR
      have next : ∀ g' : Nat → Int32, (∀ s, s < k → g' s = fI (if t ≤ s ∧ s < t + (lo + 1) then R s - R (t + lo) * B (s - t) else R s)) → Z X E 7 (zQ X E 0 0 (fun v s M' => none = v ∧ sz = s ∧ ∃ (Q R : PS) (kr kq : Nat), P = ps_add (ps_mul Q B) R ∧ (∀ j, lo ≤ j → R j = 0) ∧ zp E M' a n kr R ∧ zp E M' c nc kq Q ∧ ∀ q, q ≠ a → q ≠ a + 1 → q ≠ c → q ≠ c + 1 → M' q = M q)) 0 0 sz (zU (zU (zU M c (.inr (3, [.ref (c + 1), .int (tI (k - lo))]))) (c + 1) (.inl (E.2.1 0, nc, .inl (upd h t (fI (R (t + lo))))))) (a + 1) (.inl (E.2.1 0, n, .inl g'))) 133 [(0, .ref a), (1, .ref b), (2, .ref c), (3, .int (nI lo)), (4, .int (tI (t + 1)))] [] := by
        intro g' hg'
        refine z_iinc (v := tI t) (L' := [(0, .ref a), (1, .ref b), (2, .ref c), (3, .int (nI lo)), (4, .int (tI t))]) C d_P_divideBy_133 rfl (tI_dec t) (by decide) rfl ?_
        refine z_goto (tgt := 49) C d_P_divideBy_136 (by decide) ?_
        refine ih (by omega) _ _ _ _ s1 (fun s hs => by rw [hg' s hs, s3]) s2 (fun s hs1 hs2 => ?_) (fun s hs => ?_) (fun s hs => ?_)
        · by_cases q : s = t
          · rw [q, upd_eq]; simp only [ps_add, mono, if_true, hQ0 t (by omega)]; congr 1; grind
          · rw [upd_ne q, hh s (by omega) hs2]; simp only [ps_add, mono, if_neg q]; congr 1; grind
        · simp only [ps_add, mono, if_neg (show s ≠ t by omega), hQ0 s (by omega)]; grind
        · simp only [ps_add, mono, if_neg (show s ≠ t by omega), hQ1 s hs]; grind
      refine z_iload C d_P_divideBy_49 rfl ?_
      refine z_if_lt (tgt := 139) C d_P_divideBy_51 (by decide) (fun c_51 => absurd c_51 (by rw [tI_s]; exact nI_pos (by omega))) (fun _ => ?_)
      refine z_aload_n C d_P_divideBy_54 rfl rfl ?_
      refine z_get C in_P ((zU_ne (by omega)).trans ((zU_ne (by omega)).trans ((zU_ne (by omega)).trans ha0))) rfl 0 (by decide) fl_P_15 rfl rfl d_P_divideBy_55 ?_
      refine z_iload C d_P_divideBy_58 rfl ?_
      refine z_iload_n C d_P_divideBy_60 rfl rfl ?_
      refine z_iadd C d_P_divideBy_61 ?_
      refine z_top (y := nI (t + lo)) (by rw [tI_s, nI_add]) ?_
      refine z_iald C zU_eq 0 rfl (t + lo) (rfl) (by omega) (by omega) d_P_divideBy_62 ?_
      refine z_top (y := fI (R (t + lo))) (hg _ (by omega)) ?_
      refine z_istore (L' := [(0, .ref a), (1, .ref b), (2, .ref c), (3, .int (nI lo)), (4, .int (tI (t + 1))), (5, .int (fI (R (t + lo))))]) C d_P_divideBy_63 (by decide) rfl ?_
      refine z_aload_n C d_P_divideBy_65 rfl rfl ?_
      refine z_get C in_P ((zU_ne (by omega)).trans ((zU_ne (by omega)).trans zU_eq)) rfl 0 (by decide) fl_P_15 rfl rfl d_P_divideBy_66 ?_
      refine z_iload C d_P_divideBy_69 rfl ?_
      refine z_iload C d_P_divideBy_71 rfl ?_
      refine z_iast C ((zU_ne (by omega)).trans zU_eq) 0 rfl t (tI_s t) (by omega) (by omega) d_P_divideBy_73 ?_
      refine z_world (M' := zU (zU (zU M c (.inr (3, [.ref (c + 1), .int (tI (k - lo))]))) (c + 1) (.inl (E.2.1 0, nc, .inl (upd h t (fI (R (t + lo))))))) (a + 1) (.inl (E.2.1 0, n, .inl g))) (by rw [zU_cm (by omega), zU_uu]) ?_
      refine z_iconst (v := nI 0) C d_P_divideBy_74 (by decide) ?_
      refine z_istore (L' := [(0, .ref a), (1, .ref b), (2, .ref c), (3, .int (nI lo)), (4, .int (tI (t + 1))), (5, .int (fI (R (t + lo)))), (6, .int (nI 0))]) C d_P_divideBy_75 (by decide) rfl ?_
      by_cases hx : R (t + lo) = 0
      · refine z_iload C d_P_divideBy_77 rfl ?_
        refine z_if_eq (tgt := 133) C d_P_divideBy_79 (by decide) (fun _ => ?_) (fun q => absurd (fI_eq0.mpr hx) q)
        refine z_sub [0, 1, 2, 3, 4] rfl ?_
        refine next g (fun s hs => ?_)
        rw [hg s hs]
        split
        · congr 1; rw [hx]; grind
        · rfl
      · exact inner t _ R hlk (by omega) hx next (lo + 2) 0 g (by omega) (by omega) (fun s hs => by rw [if_neg (by omega)]; exact hg s hs)
  show Z X E 7 _ 0 0 sz M 0 [(0, .ref a), (1, .ref b), (2, .ref c)] []
  refine z_aload_n C d_P_divideBy_0 rfl rfl ?_
  refine z_get C in_P hb0 rfl 1 (by decide) fl_P_9 rfl rfl d_P_divideBy_1 ?_
  refine z_top (y := nI lo) (tI_s lo) ?_
  refine z_istore_n (L' := [(0, .ref a), (1, .ref b), (2, .ref c), (3, .int (nI lo))]) C d_P_divideBy_4 rfl (by decide) rfl ?_
  refine z_iload_n C d_P_divideBy_5 rfl rfl ?_
  refine z_if_lt (tgt := 17) C d_P_divideBy_6 (by decide) (fun c_6 => absurd c_6 (nI_pos (by omega))) (fun _ => ?_)
  refine z_aload_n C d_P_divideBy_9 rfl rfl ?_
  refine z_get C in_P ha0 rfl 1 (by decide) fl_P_9 rfl rfl d_P_divideBy_10 ?_
  refine z_iload_n C d_P_divideBy_13 rfl rfl ?_
  refine z_icmp_ge (tgt := 23) C d_P_divideBy_14 (by decide) (fun c14 => ?_) (fun c14 => ?_)
  · have c14 := (tI_le (by omega) (by omega)).mp c14
    refine z_aload_n C d_P_divideBy_23 rfl rfl ?_
    refine z_aload_n C d_P_divideBy_24 rfl rfl ?_
    refine z_get C in_P ha0 rfl 1 (by decide) fl_P_9 rfl rfl d_P_divideBy_25 ?_
    refine z_iload_n C d_P_divideBy_28 rfl rfl ?_
    refine z_isub C d_P_divideBy_29 ?_
    refine z_top (y := tI (k - lo)) (tI_subn c14) ?_
    refine z_aload_n C d_P_divideBy_30 rfl rfl ?_
    refine z_get C in_P hc0 rfl 0 (by decide) fl_P_15 rfl rfl d_P_divideBy_31 ?_
    refine z_alen (v := nI nc) C hc1 0 rfl (rfl) d_P_divideBy_34 ?_
    refine z_iconst (v := 1) C d_P_divideBy_35 (by decide) ?_
    refine z_isub C d_P_divideBy_36 ?_
    refine z_mmin C ml_P_23 sm_jM_min ii_jM k_jM_min (by decide) (Nat.le_of_ble_eq_true rfl) (Nat.zero_le _) (Nat.zero_le _) d_P_divideBy_37 ?_
    refine z_top (y := tI (k - lo)) (tI_min (k := k - lo) (m := nc) (by omega) (by omega) hk) ?_
    refine z_put C in_P ty_P tok_P nm_P hc0 rfl 1 (by decide) fl_P_9 rfl rfl rfl (rfl) (rfl) (Nat.le_of_ble_eq_true rfl) d_P_divideBy_40 ?_
    show Z _ _ _ _ _ _ _ (zU M c (.inr (3, [.ref (c + 1), .int (tI (k - lo))]))) _ _ _
    refine z_aload_n C d_P_divideBy_43 rfl rfl ?_
    refine z_get C in_P zU_eq rfl 1 (by decide) fl_P_9 rfl rfl d_P_divideBy_44 ?_
    refine z_istore (L' := [(0, .ref a), (1, .ref b), (2, .ref c), (3, .int (nI lo)), (4, .int (tI (k - lo)))]) C d_P_divideBy_47 (by decide) rfl ?_
    refine z_world (zU_id (a := c + 1) (e := .inl (E.2.1 0, nc, .inl fc)) ((zU_ne (by omega)).trans hc1)).symm ?_
    refine z_world (zU_id (a := a + 1) (e := .inl (E.2.1 0, n, .inl f)) ((zU_ne (by omega)).trans ((zU_ne (by omega)).trans ha1))).symm ?_
    exact loop c14 (k - lo) (Nat.le_refl _) f fc ps_0 P (by rw [ps_mul0l]; funext s; simp only [ps_add, ps_0]; grind) (fun s hs => hr.2.2 s hs) (fun s hs => hr.1 s (by omega)) (fun s h1 h2 => absurd h2 (by omega)) (fun _ _ => rfl) (fun _ _ => rfl)
  · have c14 : k ≤ lo := Nat.not_lt.mp (fun q => c14 ((tI_le (by omega) (by omega)).mpr q))
    refine z_aload_n C d_P_divideBy_17 rfl rfl ?_
    refine z_iconst (v := tI 0) C d_P_divideBy_18 (by decide) ?_
    refine z_put C in_P ty_P tok_P nm_P hc0 rfl 1 (by decide) fl_P_9 rfl rfl rfl (rfl) (rfl) (Nat.le_of_ble_eq_true rfl) d_P_divideBy_19 ?_
    show Z _ _ _ _ _ _ _ (zU M c (.inr (3, [.ref (c + 1), .int (tI 0)]))) _ _ _
    refine z_vret C ⟨rfl, rfl, ps_0, P, k, 0, by rw [ps_mul0l]; funext s; simp only [ps_add, ps_0]; grind, fun s hs => hr.1 s (by omega), zp_kept ha (zU_ne (by omega)) (zU_ne (by omega)), ⟨fc, zU_eq, (zU_ne (by omega)).trans hc1, ⟨fun _ _ => rfl, fun m hm => absurd hm (by omega), fun s hs => absurd hs (by omega)⟩, by omega, hnc⟩, fun q q1 q2 q3 q4 => zU_ne q3⟩ d_P_divideBy_22
