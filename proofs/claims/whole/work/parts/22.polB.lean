theorem p_isZero (E : zE) (l : Launch) (sz : Nat) (M : zM) {a n k : Nat} {P : PS} (ha : zp E M a n k P) : zMet E l y_P_isZero c_P_isZero 1 (some .boolean) { frames := 0, cells := 0, slots := 0, locals := 0 } 0 0 [.ref a] sz M (zRet (some (.int (if k = 0 then 1 else 0))) sz M) := by
  obtain ⟨f, ha0, ha1, hr, hkn, hn⟩ := ha
  have e : (if k = 0 then (1 : Int32) else 0) = if tI k < 0 then 1 else 0 := by simp only [tI_lt0 (n := k) (by omega)]
  rw [e]
  exact q_P_isZero E l sz M a ha0
theorem p_get (E : zE) (l : Launch) (sz : Nat) (M : zM) {a n k : Nat} {P : PS} (i : Nat) (hi : i < 2 ^ 20) (ha : zp E M a n k P) : zMet E l y_P_get c_P_get 2 (some .int) { frames := 0, cells := 0, slots := 0, locals := 0 } 0 0 [.ref a, .int (nI i)] sz M (zRet (some (.int (fI (P i)))) sz M) := by
  obtain ⟨f, ha0, ha1, hr, hkn, hn⟩ := ha
  have e : fI (P i) = if 0 ≤ nI i ∧ nI i ≤ tI k ∧ nI i < nI n then f (nI i).toNatClampNeg else 0 := by
    by_cases h : i < k
    · rw [if_pos ⟨nI_pos' (by omega), (tI_le (by omega) (by omega)).mpr h, nI_lt (by omega) (by omega)⟩, nI_clamp (by omega), hr.2.2 i h]
    · rw [if_neg (fun q => h ((tI_le (by omega) (by omega)).mp q.2.1)), hr.1 i (by omega), fI_0]
  rw [e]
  exact q_P_get E l sz M a (nI i) ha0 ha1 (by omega)
set_option maxHeartbeats 4000000 in
/-- Polynomial.lead -/
theorem p_lead (E : zE) (l : Launch) (sz : Nat) (M : zM) {a n k m : Nat} {P : PS} (ha : zp E M a n k P) (hk : k = m + 1) : zMet E l y_P_lead c_P_lead 1 (some .int) { frames := 1, cells := 0, slots := 0, locals := 21 } 0 0 [.ref a] sz M (zRet (some (.int (fI (P m)))) sz M) := by
  subst hk
  obtain ⟨f, ha0, ha1, hr, hkn, hn⟩ := id ha
  refine zMet.ofZ (by decide) (Nat.le_of_ble_eq_true rfl) ?_
  intro X hl hini C
  show Z X E 1 _ 0 0 sz M 0 [(0, .ref a)] []
  refine z_aload_n C d_P_lead_0 rfl rfl ?_
  refine z_aload_n C d_P_lead_1 rfl rfl ?_
  refine z_get C in_P ha0 rfl 1 (by decide) fl_P_9 rfl rfl d_P_lead_2 ?_
  refine z_top (y := nI m) (tI_s m) ?_
  refine z_callV (rest := []) (n := 1) (As := [.int (nI m)]) C (p_get E X.2.1 sz M m (by omega) ha) ⟨z_cb C k_P_get ml_P_19 ii_P rfl rfl (by decide +kernel) ⟨by decide, by decide⟩, C.2.2.2.2.1 _ im_P_get, C.2.2.2.2.1 _ se_P_get⟩ ha0 rfl rfl rfl (Nat.le_of_ble_eq_true rfl) d_P_lead_5 ⟨by decide, by decide⟩ ?_
  intro v_5 s_5 M_5 hp_5
  obtain ⟨rfl, rfl, rfl⟩ := hp_5
  show Z _ _ _ _ _ _ _ _ 8 _ [.int (fI (P m))]
  exact z_iret C ⟨rfl, rfl, rfl⟩ d_P_lead_8
set_option maxHeartbeats 4000000 in
/-- Polynomial.setConstant -/
theorem p_setConstant (E : zE) (l : Launch) (sz : Nat) (M : zM) {a n k : Nat} {P : PS} (ha : zp E M a n k P) (hn1 : 1 ≤ n) (c : FF) : zMet E l y_P_setConstant c_P_setConstant 2 none { frames := 0, cells := 0, slots := 0, locals := 0 } 0 0 [.ref a, .int (fI c)] sz M (fun v s M' => none = v ∧ sz = s ∧ zp E M' a n (if c = 0 then 0 else 1) (ps_C c) ∧ zout M M' a) := by
  obtain ⟨f, ha0, ha1, hr, hkn, hn⟩ := id ha
  refine zMet.ofZ (by decide) (Nat.le_of_ble_eq_true rfl) ?_
  intro X hl hini C
  show Z X E 2 _ 0 0 sz M 0 [(0, .ref a), (1, .int (fI c))] []
  refine z_aload_n C d_P_setConstant_0 rfl rfl ?_
  refine z_get C in_P ha0 rfl 0 (by decide) fl_P_15 rfl rfl d_P_setConstant_1 ?_
  refine z_iconst (v := 0) C d_P_setConstant_4 (by decide) ?_
  refine z_iload_n C d_P_setConstant_5 rfl rfl ?_
  refine z_iast C ha1 0 rfl 0 (rfl) (hn1) (by omega) d_P_setConstant_6 ?_
  refine z_aload_n C d_P_setConstant_7 rfl rfl ?_
  refine z_iload_n C d_P_setConstant_8 rfl rfl ?_
  refine z_if_ne (tgt := 16) C d_P_setConstant_9 (by decide) (fun c9 => ?_) (fun c9 => ?_)
  · have c9 : c ≠ 0 := fun q => c9 (fI_eq0.mpr q)
    refine z_iconst (v := tI 1) C d_P_setConstant_16 (by decide) ?_
    refine z_put C in_P ty_P tok_P nm_P ((zU_ne (by omega)).trans ha0) rfl 1 (by decide) fl_P_9 rfl rfl rfl (rfl) (rfl) (Nat.le_of_ble_eq_true rfl) d_P_setConstant_17 ?_
    show Z _ _ _ _ _ _ _ (zU (zU M (a + 1) (.inl (E.2.1 0, n, .inl (upd f 0 (fI c))))) a (.inr (3, [.ref (a + 1), .int (tI 1)]))) _ _ _
    refine z_vret C ⟨rfl, rfl, ?_, fun q h1 h2 => (zU_ne h1).trans (zU_ne h2)⟩ d_P_setConstant_20
    rw [if_neg c9]
    refine ⟨upd f 0 (fI c), zU_eq, (zU_ne (by omega)).trans zU_eq, ?_, by omega, hn⟩
    exact ⟨fun i hi => by simp [ps_C, show i ≠ 0 by omega], fun m hm => by rw [show m = 0 by omega]; simpa [ps_C] using c9, fun i hi => by rw [show i = 0 by omega, upd_eq]; simp [ps_C]⟩
  · have c9 : c = 0 := fI_eq0.mp c9
    refine z_iconst (v := tI 0) C d_P_setConstant_12 (by decide) ?_
    refine z_goto (tgt := 17) C d_P_setConstant_13 (by decide) ?_
    refine z_put C in_P ty_P tok_P nm_P ((zU_ne (by omega)).trans ha0) rfl 1 (by decide) fl_P_9 rfl rfl rfl (rfl) (rfl) (Nat.le_of_ble_eq_true rfl) d_P_setConstant_17 ?_
    show Z _ _ _ _ _ _ _ (zU (zU M (a + 1) (.inl (E.2.1 0, n, .inl (upd f 0 (fI c))))) a (.inr (3, [.ref (a + 1), .int (tI 0)]))) _ _ _
    refine z_vret C ⟨rfl, rfl, ?_, fun q h1 h2 => (zU_ne h1).trans (zU_ne h2)⟩ d_P_setConstant_20
    rw [if_pos c9]
    refine ⟨upd f 0 (fI c), zU_eq, (zU_ne (by omega)).trans zU_eq, ?_, by omega, hn⟩
    rw [c9]; exact ⟨fun i _ => by simp [ps_C], fun m hm => absurd hm (by omega), fun i hi => absurd hi (by omega)⟩
set_option maxHeartbeats 4000000 in
/-- Polynomial.setLetter -/
theorem p_setLetter (E : zE) (l : Launch) (sz : Nat) (M : zM) {a n k : Nat} {P : PS} (ha : zp E M a n k P) (hn1 : 2 ≤ n) : zMet E l y_P_setLetter c_P_setLetter 1 none { frames := 0, cells := 0, slots := 0, locals := 0 } 0 0 [.ref a] sz M (fun v s M' => none = v ∧ sz = s ∧ zp E M' a n 2 (mono 1 1) ∧ zout M M' a) := by
  obtain ⟨f, ha0, ha1, hr, hkn, hn⟩ := id ha
  refine zMet.ofZ (by decide) (Nat.le_of_ble_eq_true rfl) ?_
  intro X hl hini C
  show Z X E 1 _ 0 0 sz M 0 [(0, .ref a)] []
  refine z_aload_n C d_P_setLetter_0 rfl rfl ?_
  refine z_get C in_P ha0 rfl 0 (by decide) fl_P_15 rfl rfl d_P_setLetter_1 ?_
  refine z_iconst (v := 0) C d_P_setLetter_4 (by decide) ?_
  refine z_iconst (v := 0) C d_P_setLetter_5 (by decide) ?_
  refine z_iast C ha1 0 rfl 0 (rfl) (by omega) (by omega) d_P_setLetter_6 ?_
  refine z_aload_n C d_P_setLetter_7 rfl rfl ?_
  refine z_get C in_P ((zU_ne (by omega)).trans ha0) rfl 0 (by decide) fl_P_15 rfl rfl d_P_setLetter_8 ?_
  refine z_iconst (v := 1) C d_P_setLetter_11 (by decide) ?_
  refine z_iconst (v := 1) C d_P_setLetter_12 (by decide) ?_
  refine z_iast C zU_eq 0 rfl 1 (rfl) (by omega) (by omega) d_P_setLetter_13 ?_
  refine z_world zU_uu ?_
  refine z_aload_n C d_P_setLetter_14 rfl rfl ?_
  refine z_iconst (v := tI 2) C d_P_setLetter_15 (by decide) ?_
  refine z_put C in_P ty_P tok_P nm_P ((zU_ne (by omega)).trans ha0) rfl 1 (by decide) fl_P_9 rfl rfl rfl (rfl) (rfl) (Nat.le_of_ble_eq_true rfl) d_P_setLetter_16 ?_
  show Z _ _ _ _ _ _ _ (zU (zU M (a + 1) (.inl (E.2.1 0, n, .inl (upd (upd f 0 0) 1 1)))) a (.inr (3, [.ref (a + 1), .int (tI 2)]))) _ _ _
  refine z_vret C ⟨rfl, rfl, ⟨upd (upd f 0 0) 1 1, zU_eq, (zU_ne (by omega)).trans zU_eq, ⟨fun i hi => ?_, fun m hm => ?_, fun i hi => ?_⟩, by omega, hn⟩, fun q h1 h2 => (zU_ne h1).trans (zU_ne h2)⟩ d_P_setLetter_19
  · simp [mono, show i ≠ 1 by omega]
  · rw [show m = 1 by omega]; simp [mono]
  · rcases (show i = 0 ∨ i = 1 by omega) with rfl | rfl
    · rw [upd_ne (by omega), upd_eq]; simp [mono, fI_0]
    · rw [upd_eq]; simp [mono, fI_1]
set_option maxHeartbeats 4000000 in
/-- Polynomial.trimFrom -/
theorem p_trimFrom (E : zE) (l : Launch) (sz : Nat) (M : zM) {a n m : Nat} {t : Int32} {f : Nat → Int32} {P : PS} (ha0 : M a = some (.inr (3, [.ref (a + 1), .int t]))) (ha1 : M (a + 1) = some (.inl (E.2.1 0, n, .inl f))) (hm : m ≤ n) (hn : n < 1000) (hP : ∀ i, m ≤ i → P i = 0) (hf : ∀ i, i < m → f i = fI (P i)) : zMet E l y_P_trimFrom c_P_trimFrom 3 none { frames := 0, cells := 0, slots := 0, locals := 0 } 0 0 [.ref a, .int (tI m)] sz M (fun v s M' => none = v ∧ sz = s ∧ (∃ k, zp E M' a n k P) ∧ zout M M' a) := by
  refine zMet.ofZ (by decide) (Nat.le_of_ble_eq_true rfl) ?_
  intro X hl hini C
  have loop : ∀ (i : Nat), i ≤ m → (∀ j, i ≤ j → P j = 0) → Z X E 3 (zQ X E 0 0 (fun v s M' => none = v ∧ sz = s ∧ (∃ k, zp E M' a n k P) ∧ zout M M' a)) 0 0 sz (zU M a (.inr (3, [.ref (a + 1), .int (tI 0)]))) 7 [(0, .ref a), (1, .int (tI m)), (2, .int (tI i))] [] := by
    intro i
    induction i with
    | zero =>
      intro hi hz
      refine z_iload_n C d_P_trimFrom_7 rfl rfl ?_
      refine z_if_lt (tgt := 38) C d_P_trimFrom_8 (by decide) (fun _ => ?_) (fun c_8 => absurd (by decide) c_8)
      exact z_vret C ⟨rfl, rfl, ⟨0, f, zU_eq, (zU_ne (by omega)).trans ha1, ⟨hz, fun m hm => absurd hm (by omega), fun i hi => absurd hi (by omega)⟩, by omega, hn⟩, zout_u0⟩ d_P_trimFrom_38
    | succ i ih =>
      intro hi hz
      refine z_iload_n C d_P_trimFrom_7 rfl rfl ?_
      refine z_if_lt (tgt := 38) C d_P_trimFrom_8 (by decide) (fun c_8 => absurd c_8 (by rw [tI_s]; exact nI_pos (by omega))) (fun _ => ?_)
      refine z_aload_n C d_P_trimFrom_11 rfl rfl ?_
      refine z_get C in_P zU_eq rfl 1 (by decide) fl_P_9 rfl rfl d_P_trimFrom_12 ?_
      refine z_if_ge (tgt := 38) C d_P_trimFrom_15 (by decide) (fun c_15 => absurd c_15 (by decide)) (fun _ => ?_)
      refine z_aload_n C d_P_trimFrom_18 rfl rfl ?_
      refine z_get C in_P zU_eq rfl 0 (by decide) fl_P_15 rfl rfl d_P_trimFrom_19 ?_
      refine z_iload_n C d_P_trimFrom_22 rfl rfl ?_
      refine z_iald C ((zU_ne (by omega)).trans ha1) 0 rfl i (tI_s i) (by omega) (by omega) d_P_trimFrom_23 ?_
      refine z_top (y := fI (P i)) (hf i (by omega)) ?_
      refine z_if_eq (tgt := 32) C d_P_trimFrom_24 (by decide) (fun c24 => ?_) (fun c24 => ?_)
      · have c24 : P i = 0 := fI_eq0.mp c24
        refine z_iinc (v := tI i) (L' := [(0, .ref a), (1, .int (tI m)), (2, .int (tI i))]) C d_P_trimFrom_32 rfl (tI_dec i) (by decide) rfl ?_
        refine z_goto (tgt := 7) C d_P_trimFrom_35 (by decide) ?_
        exact ih (by omega) (fun j hj => by
          rcases Nat.lt_or_ge i j with q | q
          · exact hz j q
          · rw [show j = i by omega]; exact c24)
      · have hnz : P i ≠ 0 := fun q => c24 (fI_eq0.mpr q)
        refine z_aload_n C d_P_trimFrom_27 rfl rfl ?_
        refine z_iload_n C d_P_trimFrom_28 rfl rfl ?_
        refine z_put C in_P ty_P tok_P nm_P zU_eq rfl 1 (by decide) fl_P_9 rfl rfl rfl (rfl) (rfl) (Nat.le_of_ble_eq_true rfl) d_P_trimFrom_29 ?_
        show Z _ _ _ _ _ _ _ (zU (zU M a (.inr (3, [.ref (a + 1), .int (tI 0)]))) a (.inr (3, [.ref (a + 1), .int (tI (i + 1))]))) _ _ _
        refine z_world zU_uu ?_
        refine z_iinc (v := tI i) (L' := [(0, .ref a), (1, .int (tI m)), (2, .int (tI i))]) C d_P_trimFrom_32 rfl (tI_dec i) (by decide) rfl ?_
        refine z_goto (tgt := 7) C d_P_trimFrom_35 (by decide) ?_
        refine z_iload_n C d_P_trimFrom_7 rfl rfl ?_
        refine z_if_lt (tgt := 38) C d_P_trimFrom_8 (by decide) (fun c8 => ?_) (fun c8 => ?_)
        · exact z_vret C ⟨rfl, rfl, ⟨i + 1, f, zU_eq, (zU_ne (by omega)).trans ha1, ⟨hz, fun j hj => by rw [show j = i by omega]; exact hnz, fun j hj => hf j (by omega)⟩, by omega, hn⟩, zout_u0⟩ d_P_trimFrom_38
        · refine z_aload_n C d_P_trimFrom_11 rfl rfl ?_
          refine z_get C in_P zU_eq rfl 1 (by decide) fl_P_9 rfl rfl d_P_trimFrom_12 ?_
          refine z_if_ge (tgt := 38) C d_P_trimFrom_15 (by decide) (fun _ => ?_) (fun c_15 => absurd (by rw [tI_s]; exact nI_pos' (by omega)) c_15)
          exact z_vret C ⟨rfl, rfl, ⟨i + 1, f, zU_eq, (zU_ne (by omega)).trans ha1, ⟨hz, fun j hj => by rw [show j = i by omega]; exact hnz, fun j hj => hf j (by omega)⟩, by omega, hn⟩, zout_u0⟩ d_P_trimFrom_38
  show Z X E 3 _ 0 0 sz M 0 [(0, .ref a), (1, .int (tI m))] []
  refine z_aload_n C d_P_trimFrom_0 rfl rfl ?_
  refine z_iconst (v := tI 0) C d_P_trimFrom_1 (by decide) ?_
  refine z_put C in_P ty_P tok_P nm_P ha0 rfl 1 (by decide) fl_P_9 rfl rfl rfl (rfl) (rfl) (Nat.le_of_ble_eq_true rfl) d_P_trimFrom_2 ?_
  show Z _ _ _ _ _ _ _ (zU M a (.inr (3, [.ref (a + 1), .int (tI 0)]))) _ _ _
  refine z_iload_n C d_P_trimFrom_5 rfl rfl ?_
  refine z_istore_n (L' := [(0, .ref a), (1, .int (tI m)), (2, .int (tI m))]) C d_P_trimFrom_6 rfl (by decide) rfl ?_
  exact loop m (Nat.le_refl m) hP
