set_option maxHeartbeats 4000000 in
/-- type -/
theorem s_type (E : zE) (l : Launch) (sz : Nat) (M : zM) {B : Nat} {cs : List Nat} {fs : List (PS × PS)} {ss : List Nat} {nb : Nat → Nat} {sc : Nat} {bad : Int32} (H : zse E M B (cs, fs, ss, nb, sc, bad)) (x : Int32) : zMet E l y_S_type c_S_type 2 (some .int) { frames := 5, cells := 0, slots := 0, locals := 111 } 0 0 [.ref B, .int x] sz M (fun v s M' => some (.int (q_type x (cs, fs, ss, nb, sc, bad)).1) = v ∧ sz = s ∧ zoutR M M' B (B + 312) ∧ zse E M' B (q_type x (cs, fs, ss, nb, sc, bad)).2) := by
  obtain ⟨h0, hL, hS, hF, hJ⟩ := id H
  obtain ⟨lf, hl0, hl1, hlen, -⟩ := id hL
  obtain ⟨sff, ssf, snf, hs0, hs1, hs2, hs3, ⟨hc40, hss, hsc⟩, -⟩ := id hS
  refine zMet.ofZ (by decide) (Nat.le_of_ble_eq_true rfl) ?_
  intro X hl hini C
  show Z X E 2 _ 0 0 sz M 0 [(0, .ref B), (1, .int x)] []
  refine z_iload_n C d_S_type_0 rfl rfl ?_
  refine z_callS (rest := []) (n := 1) (As := [.int x]) C (l_mayHold E X.2.1 sz _ x) ⟨z_cb C k_L_mayHold ml_S_57 ii_L rfl rfl (by decide +kernel) ⟨by decide, by decide⟩, C.2.2.2.2.1 _ sm_L_mayHold⟩ rfl rfl (Nat.le_of_ble_eq_true rfl) d_S_type_1 ⟨by decide, by decide⟩ ?_
  intro v_1 s_1 M_1 hp_1
  obtain ⟨rfl, rfl, ⟨c, hc, rfl, hm, rfl⟩ | ⟨hno, rfl⟩⟩ := hp_1
  · have et : q_type (nI c) (cs, fs, ss, nb, sc, bad) = if cs.length < 32 then (nI (cs.length + 1), (cs ++ [c], fs, ss, nb, sc, bad)) else (-2, (cs, fs, ss, nb, sc, bad)) := by
      show pif (∃ c_1 : Nat, c_1 < 128 ∧ nI c = nI c_1 ∧ mayH c_1) (if cs.length < 32 then (nI (cs.length + 1), (cs ++ [(nI c).toNatClampNeg], fs, ss, nb, sc, bad)) else _) _ = _
      rw [pif_t ⟨c, hc, rfl, hm⟩, nI_clamp (by omega)]
    show Z _ _ _ _ _ _ _ _ 4 _ [.int (nI 1)]
    refine z_if_ne (tgt := 9) C d_S_type_4 (by decide) (fun _ => ?_) (fun c_4 => absurd c_4 (by decide))
    refine z_aload_n C d_S_type_9 rfl rfl ?_
    refine z_get C in_S h0 rfl 0 (by decide) fl_S_12 rfl rfl d_S_type_10 ?_
    refine z_iload_n C d_S_type_13 rfl rfl ?_
    refine z_i2c (v := nI c) C d_S_type_14 ((sb_byte c (by omega)).2.1) ?_
    refine z_callV (rest := []) (n := 1) (As := [.int (nI c)]) C (l_add E X.2.1 sz _ hL c hc) ⟨z_cb C k_L_add ml_S_61 ii_L rfl rfl (by decide +kernel) ⟨by decide, by decide⟩, C.2.2.2.2.1 _ im_L_add, C.2.2.2.2.1 _ se_L_add⟩ hl0 rfl rfl rfl (Nat.le_of_ble_eq_true rfl) d_S_type_15 ⟨by decide, by decide⟩ ?_
    intro v_9 s_9 M_9 hp_9
    obtain ⟨rfl, ho, ⟨e, rfl, hz⟩ | ⟨e, rfl, rfl⟩⟩ := hp_9
    · have H1 := zse_line H ho hz
      obtain ⟨_, hz0, _⟩ := id hz
      show Z _ _ _ _ _ _ _ _ 18 _ [.int (nI 1)]
      refine z_if_eq (tgt := 31) C d_S_type_18 (by decide) (fun c_18 => absurd c_18 (by decide)) (fun _ => ?_)
      refine z_aload_n C d_S_type_21 rfl rfl ?_
      refine z_get C in_S H1.1 rfl 0 (by decide) fl_S_12 rfl rfl d_S_type_22 ?_
      refine z_getN C in_L hz0 rfl 1 (by decide) fl_S_65 rfl rfl d_S_type_25 ?_
      refine z_goto (tgt := 33) C d_S_type_28 (by decide) ?_
      rw [if_pos e] at et
      exact z_iret C ⟨by rw [et, List.length_append]; rfl, rfl, zoutR_w ho (by omega) (by omega), by rw [et]; exact H1⟩ d_S_type_33
    · show Z _ _ _ _ _ _ _ _ 18 _ [.int (nI 0)]
      refine z_if_eq (tgt := 31) C d_S_type_18 (by decide) (fun _ => ?_) (fun c_18 => absurd (rfl) c_18)
      refine z_bipush (v := (-2)) C d_S_type_31 (by decide) ?_
      rw [if_neg (by omega)] at et
      exact z_iret C ⟨by rw [et], rfl, zoutR_rf, by rw [et]; exact H⟩ d_S_type_33
  · have et : q_type x (cs, fs, ss, nb, sc, bad) = (-1, (cs, fs, ss, nb, sc, bad)) := pif_f hno
    show Z _ _ _ _ _ _ _ _ 4 _ [.int (nI 0)]
    refine z_if_ne (tgt := 9) C d_S_type_4 (by decide) (fun c_4 => absurd c_4 (fun q => q rfl)) (fun _ => ?_)
    refine z_iconst (v := (-1)) C d_S_type_7 (by decide) ?_
    exact z_iret C ⟨by rw [et], rfl, zoutR_rf, by rw [et]; exact H⟩ d_S_type_8
set_option maxHeartbeats 4000000 in
/-- types -/
theorem s_types (E : zE) (l : Launch) (sz : Nat) (M : zM) {B : Nat} {cs : List Nat} {fs : List (PS × PS)} {ss : List Nat} {nb : Nat → Nat} {sc : Nat} {bad : Int32} (H : zse E M B (cs, fs, ss, nb, sc, bad)) (w : Int64) : zMet E l y_S_types c_S_types 6 (some .int) { frames := 6, cells := 0, slots := 0, locals := 132 } 0 0 [.ref B, .long w] sz M (fun v s M' => some (.int (q_tys w 8 (cs, fs, ss, nb, sc, bad)).1) = v ∧ sz = s ∧ zoutR M M' B (B + 312) ∧ zse E M' B (q_tys w 8 (cs, fs, ss, nb, sc, bad)).2) := by
  refine zMet.ofZ (by decide) (Nat.le_of_ble_eq_true rfl) ?_
  intro X hl hini C
  have loop : ∀ (n : Nat) (M1 : zM) (s : St), n ≤ 8 → zoutR M M1 B (B + 312) → zse E M1 B s → q_tys w 8 (cs, fs, ss, nb, sc, bad) = q_tys w n s → Z X E 6 (zQ X E 0 0 (fun v s M' => some (.int (q_tys w 8 (cs, fs, ss, nb, sc, bad)).1) = v ∧ sz = s ∧ zoutR M M' B (B + 312) ∧ zse E M' B (q_tys w 8 (cs, fs, ss, nb, sc, bad)).2)) 0 0 sz M1 3 [(0, .ref B), (1, .long w), (3, .int (nI (8 * n) - nI 8))] [] := by
    intro n
    induction n with
    | zero =>
      intro M1 s hn hfr H1 e1
      obtain ⟨cs1, fs1, ss1, nb1, sc1, bad1⟩ := s
      obtain ⟨h0, hL, -⟩ := id H1
      obtain ⟨_, hl0, -⟩ := id hL
      refine z_iload_n C d_S_types_3 rfl rfl ?_
      refine z_if_lt (tgt := 44) C d_S_types_4 (by decide) (fun _ => ?_) (fun c_4 => absurd (by decide) c_4)
      refine z_aload_n C d_S_types_44 rfl rfl ?_
      refine z_get C in_S h0 rfl 0 (by decide) fl_S_12 rfl rfl d_S_types_45 ?_
      refine z_getN C in_L hl0 rfl 1 (by decide) fl_S_65 rfl rfl d_S_types_48 ?_
      exact z_iret C ⟨by rw [e1]; rfl, rfl, hfr, by rw [e1]; exact H1⟩ d_S_types_51
    | succ n ih =>
      intro M1 s hn hfr H1 e1
      obtain ⟨cs1, fs1, ss1, nb1, sc1, bad1⟩ := s
      obtain ⟨h0, hL, -⟩ := id H1
      have en : nI (8 * (n + 1)) - nI 8 = nI (8 * n) := (pk_sub (by omega)).trans (by rw [show 8 * (n + 1) - 8 = 8 * n by omega])
      rw [en]
      refine z_iload_n C d_S_types_3 rfl rfl ?_
      refine z_if_lt (tgt := 44) C d_S_types_4 (by decide) (fun c_4 => absurd c_4 (nI_pos (by omega))) (fun _ => ?_)
      refine z_lload_n C d_S_types_7 rfl rfl ?_
      refine z_iload_n C d_S_types_8 rfl rfl ?_
      refine z_lushr C d_S_types_9 rfl ?_
      refine z_l2i C d_S_types_10 rfl ?_
      refine z_sipush (v := nI 255) C d_S_types_11 (by decide) ?_
      refine z_iand C d_S_types_14 ?_
      refine z_istore (L' := [(0, .ref B), (1, .long w), (3, .int (nI (8 * n))), (4, .int (byL w (8 * n)))]) C d_S_types_15 (by decide) rfl ?_
      refine z_iload C d_S_types_17 rfl ?_
      refine z_if_eq (tgt := 38) C d_S_types_19 (by decide) (fun c_19 => ?_) (fun c_19 => ?_)
      · refine z_iinc (v := nI (8 * n) - nI 8) (L' := [(0, .ref B), (1, .long w), (3, .int (nI (8 * n) - nI 8)), (4, .int (byL w (8 * n)))]) C d_S_types_38 rfl (by rw [Int32.sub_eq_add_neg]; rfl) (by decide) rfl ?_
        refine z_goto (tgt := 3) C d_S_types_41 (by decide) ?_
        refine z_sub [0, 1, 2] rfl ?_
        exact ih M1 _ (by omega) hfr H1 (by rw [e1]; exact if_pos c_19)
      · refine z_aload_n C d_S_types_22 rfl rfl ?_
        refine z_iload C d_S_types_23 rfl ?_
        refine z_callV (rest := []) (n := 1) (As := [.int (byL w (8 * n))]) C (s_type E X.2.1 sz _ H1 (byL w (8 * n))) ⟨z_cb C k_S_type ml_S_68 ii_S rfl rfl (by decide +kernel) ⟨by decide, by decide⟩, C.2.2.2.2.1 _ im_S_type, C.2.2.2.2.1 _ se_S_type⟩ h0 rfl rfl rfl (Nat.le_of_ble_eq_true rfl) d_S_types_25 ⟨by decide, by decide⟩ ?_
        intro v_9 s_9 M_9 hp_9
        obtain ⟨rfl, rfl, ho, H2⟩ := hp_9
        show Z _ _ _ _ _ _ _ _ 28 _ [.int (q_type (byL w (8 * n)) (cs1, fs1, ss1, nb1, sc1, bad1)).1]
        refine z_istore (L' := [(0, .ref B), (1, .long w), (3, .int (nI (8 * n))), (4, .int (byL w (8 * n))), (5, .int ((q_type (byL w (8 * n)) (cs1, fs1, ss1, nb1, sc1, bad1)).1))]) C d_S_types_28 (by decide) rfl ?_
        refine z_iload C d_S_types_30 rfl ?_
        refine z_if_ge (tgt := 38) C d_S_types_32 (by decide) (fun c_32 => ?_) (fun c_32 => ?_)
        · refine z_iinc (v := nI (8 * n) - nI 8) (L' := [(0, .ref B), (1, .long w), (3, .int (nI (8 * n) - nI 8)), (4, .int (byL w (8 * n))), (5, .int ((q_type (byL w (8 * n)) (cs1, fs1, ss1, nb1, sc1, bad1)).1))]) C d_S_types_38 rfl (by rw [Int32.sub_eq_add_neg]; rfl) (by decide) rfl ?_
          refine z_goto (tgt := 3) C d_S_types_41 (by decide) ?_
          refine z_sub [0, 1, 2] rfl ?_
          exact ih _ _ (by omega) (zoutR_tr hfr ho) H2 (by rw [e1]; exact (if_neg c_19).trans (if_neg (Int32.not_lt.mpr c_32)))
        · refine z_iload C d_S_types_35 rfl ?_
          exact z_iret C ⟨by rw [e1, show q_tys w (n + 1) (cs1, fs1, ss1, nb1, sc1, bad1) = _ from (if_neg c_19).trans (if_pos (Int32.not_le.mp c_32))], rfl, zoutR_tr hfr ho, by rw [e1, show q_tys w (n + 1) (cs1, fs1, ss1, nb1, sc1, bad1) = _ from (if_neg c_19).trans (if_pos (Int32.not_le.mp c_32))]; exact H2⟩ d_S_types_37
  show Z X E 6 _ 0 0 sz M 0 [(0, .ref B), (1, .long w)] []
  refine z_bipush (v := nI (8 * 8) - nI 8) C d_S_types_0 (by decide) ?_
  refine z_istore_n (L' := [(0, .ref B), (1, .long w), (3, .int (nI (8 * 8) - nI 8))]) C d_S_types_2 rfl (by decide) rfl ?_
  exact loop 8 M _ (by omega) zoutR_rf H rfl

theorem fm_xor (x : Int32) : (x ^^^ 10007 : Int32) < 0 ↔ x < 0 := by
  rw [Int32.lt_iff_toInt_lt, Int32.lt_iff_toInt_lt]
  show (x ^^^ 10007 : Int32).toBitVec.toInt < 0 ↔ x.toBitVec.toInt < 0
  have h1 := BitVec.msb_eq_toInt (x := (x ^^^ 10007 : Int32).toBitVec)
  have h2 := BitVec.msb_eq_toInt (x := x.toBitVec)
  rw [show (x ^^^ 10007 : Int32).toBitVec = x.toBitVec ^^^ 10007#32 from rfl] at h1 ⊢
  rw [BitVec.msb_xor, show (10007#32).msb = false by decide, Bool.xor_false, h2] at h1
  exact (decide_eq_decide.mp h1).symm
theorem fm_add {r : Nat} (h : r ≤ 10007) : -(nI r) + 10007 = nI (10007 - r) := by
  rw [← pk_sub (a := 10007) (b := r) h, Int32.sub_eq_add_neg, Int32.add_comm]; rfl
/-- the remainder of any int -/
theorem rem_cases (x : Int32) : (∃ r : Nat, ¬ x < 0 ∧ r < 10007 ∧ x - x / 10007 * 10007 = nI r ∧ ptF x = Fin.ofNat 10007 r) ∨ (x < 0 ∧ x - x / 10007 * 10007 = nI 0 ∧ ptF x = Fin.ofNat 10007 0) ∨ ∃ r : Nat, x < 0 ∧ 0 < r ∧ r < 10007 ∧ x - x / 10007 * 10007 = -(nI r) ∧ ptF x = Fin.ofNat 10007 (10007 - r) := by
  have e2 : (x - x / 10007 * 10007).toInt = x.toInt.tmod 10007 := rem_toInt x 10007
  unfold ptF
  have hx : x < 0 ↔ x.toInt < 0 := by rw [Int32.lt_iff_toInt_lt]; rfl
  rw [hx]
  rcases Int.lt_or_le x.toInt 0 with h | h
  case inr =>
    refine Or.inl ⟨(x.toInt % 10007).toNat, by omega, by omega, ?_, rfl⟩
    apply Int32.toInt.inj
    rw [e2, nI_toInt (by omega), Int.tmod_eq_emod_of_nonneg h]
    omega
  case inl =>
    by_cases hz : x.toInt % 10007 = 0
    · refine Or.inr (Or.inl ⟨h, ?_, by rw [hz]; rfl⟩)
      apply Int32.toInt.inj
      rw [e2]
      have : x.toInt.tmod 10007 = 0 := by
        rw [Int.tmod_eq_emod]; split <;> omega
      rw [this]; rfl
    · refine Or.inr (Or.inr ⟨(10007 - x.toInt % 10007).toNat, h, by omega, by omega, ?_, by congr 1; omega⟩)
      apply Int32.toInt.inj
      rw [e2, Int32.toInt_neg, nI_toInt (by omega)]
      have h1 : x.toInt.tmod 10007 = x.toInt % 10007 - 10007 := by
        rw [Int.tmod_eq_emod]; split <;> omega
      rw [h1, Int.bmod_eq_of_le (by omega) (by omega)]
      omega
set_option maxHeartbeats 4000000 in
/-- floorMod -/
theorem j_floorMod (E : zE) (l : Launch) (sz : Nat) (M : zM) (x : Int32) : zMet E l y_jM_floorMod c_jM_floorMod 3 (some .int) { frames := 0, cells := 0, slots := 0, locals := 0 } 0 0 [.int x, .int 10007] sz M (zRet (some (.int (fI (ptF x)))) sz M) := by
  refine zMet.ofZF (by decide +kernel) (Nat.le_of_ble_eq_true rfl) ?_
  intro X hl hini C
  show Z X E 3 _ 0 0 sz M 0 [(0, .int x), (1, .int 10007)] []
  have e9 : ∀ r : Nat, r < 10007 → ptF x = Fin.ofNat 10007 r → fI (ptF x) = nI r := fun r hr e => by rw [e]; show nI (r % 10007) = nI r; rw [Nat.mod_eq_of_lt hr]
  refine z_iload_n C d_jM_floorMod_0 rfl rfl ?_
  refine z_iload_n C d_jM_floorMod_1 rfl rfl ?_
  refine z_irem C d_jM_floorMod_2 (by decide) ?_
  rcases rem_cases x with ⟨r, hx, hr, er, ep⟩ | ⟨hx, er, ep⟩ | ⟨r, hx, hr0, hr, er, ep⟩
  · refine z_top (y := nI r) er ?_
    refine z_istore_n (L' := [(0, .int x), (1, .int 10007), (2, .int (nI r))]) C d_jM_floorMod_3 rfl (by decide) rfl ?_
    refine z_iload_n C d_jM_floorMod_4 rfl rfl ?_
    refine z_iload_n C d_jM_floorMod_5 rfl rfl ?_
    refine z_ixor C d_jM_floorMod_6 ?_
    refine z_if_ge (tgt := 18) C d_jM_floorMod_7 (by decide) (fun _ => ?_) (fun c_7 => absurd (Int32.not_lt.mp (fun q => hx ((fm_xor x).mp q))) c_7)
    refine z_iload_n C d_jM_floorMod_18 rfl rfl ?_
    exact z_iret C ⟨by rw [e9 r hr ep], rfl, rfl⟩ d_jM_floorMod_19
  · refine z_top (y := nI 0) er ?_
    refine z_istore_n (L' := [(0, .int x), (1, .int 10007), (2, .int (nI 0))]) C d_jM_floorMod_3 rfl (by decide) rfl ?_
    refine z_iload_n C d_jM_floorMod_4 rfl rfl ?_
    refine z_iload_n C d_jM_floorMod_5 rfl rfl ?_
    refine z_ixor C d_jM_floorMod_6 ?_
    refine z_if_ge (tgt := 18) C d_jM_floorMod_7 (by decide) (fun c_7 => absurd c_7 (Int32.not_le.mpr ((fm_xor x).mpr hx))) (fun _ => ?_)
    refine z_iload_n C d_jM_floorMod_10 rfl rfl ?_
    refine z_if_eq (tgt := 18) C d_jM_floorMod_11 (by decide) (fun _ => ?_) (fun c_11 => absurd (rfl) c_11)
    refine z_iload_n C d_jM_floorMod_18 rfl rfl ?_
    exact z_iret C ⟨by rw [e9 0 (by decide) ep], rfl, rfl⟩ d_jM_floorMod_19
  · refine z_top (y := -(nI r)) er ?_
    refine z_istore_n (L' := [(0, .int x), (1, .int 10007), (2, .int (-(nI r)))]) C d_jM_floorMod_3 rfl (by decide) rfl ?_
    refine z_iload_n C d_jM_floorMod_4 rfl rfl ?_
    refine z_iload_n C d_jM_floorMod_5 rfl rfl ?_
    refine z_ixor C d_jM_floorMod_6 ?_
    refine z_if_ge (tgt := 18) C d_jM_floorMod_7 (by decide) (fun c_7 => absurd c_7 (Int32.not_le.mpr ((fm_xor x).mpr hx))) (fun _ => ?_)
    refine z_iload_n C d_jM_floorMod_10 rfl rfl ?_
    refine z_if_eq (tgt := 18) C d_jM_floorMod_11 (by decide) (fun c_11 => absurd c_11 (fun q => absurd (show nI r = 0 by have h9 := congrArg Neg.neg q; rw [Int32.neg_neg] at h9; exact h9.trans (by decide)) (nI_ne0 hr0 (by omega)))) (fun _ => ?_)
    refine z_iload_n C d_jM_floorMod_14 rfl rfl ?_
    refine z_iload_n C d_jM_floorMod_15 rfl rfl ?_
    refine z_iadd C d_jM_floorMod_16 ?_
    refine z_top (y := nI (10007 - r)) (fm_add (by omega)) ?_
    exact z_iret C ⟨by rw [e9 (10007 - r) (by omega) ep], rfl, rfl⟩ d_jM_floorMod_17
set_option maxHeartbeats 4000000 in
/-- value -/
theorem s_value (E : zE) (l : Launch) (sz : Nat) (M : zM) {B : Nat} {cs : List Nat} {fs : List (PS × PS)} {ss : List Nat} {nb : Nat → Nat} {sc : Nat} {bad : Int32} (H : zse E M B (cs, fs, ss, nb, sc, bad)) (x y : Int32) : zMet E l y_S_value c_S_value 6 (some .int) { frames := 1, cells := 0, slots := 0, locals := 23 } 0 0 [.ref B, .int x, .int y] sz M (zRet (some (.int (q_value fs x y))) sz M) := by
  obtain ⟨h0, hL, hS, hF, hJ⟩ := id H
  obtain ⟨lf, hl0, hl1, hlen, -⟩ := id hL
  obtain ⟨sff, ssf, snf, hs0, hs1, hs2, hs3, ⟨hc40, hss, hsc⟩, -⟩ := id hS
  refine zMet.ofZ (by decide) (Nat.le_of_ble_eq_true rfl) ?_
  intro X hl hini C
  show Z X E 6 _ 0 0 sz M 0 [(0, .ref B), (1, .int x), (2, .int y)] []
  refine z_aload_n C d_S_value_0 rfl rfl ?_
  refine z_get C in_S h0 rfl 4 (by decide) fl_S_42 rfl rfl d_S_value_1 ?_
  refine z_iload_n C d_S_value_4 rfl rfl ?_
  refine z_callV (rest := []) (n := 1) (As := [.int x]) C (h_find E X.2.1 sz _ hS x) ⟨z_cb C k_H_find ml_S_105 ii_H rfl rfl (by decide +kernel) ⟨by decide, by decide⟩, C.2.2.2.2.1 _ im_H_find, C.2.2.2.2.1 _ se_H_find⟩ hs0 rfl rfl rfl (Nat.le_of_ble_eq_true rfl) d_S_value_5 ⟨by decide, by decide⟩ ?_
  intro v_5 s_5 M_5 hp_5
  obtain ⟨rfl, rfl, ⟨i, hi, rfl, rfl⟩ | ⟨hno, rfl⟩⟩ := hp_5
  · obtain ⟨f, hfi⟩ : ∃ f, fs[i]? = some f := ⟨_, List.getElem?_eq_getElem hi⟩
    have hlab : lab fs (nI (i + 1)) = some f := (lab_at (by omega)).trans hfi
    obtain ⟨kn, kd, hZ⟩ := zsf_fm hS hfi
    have cn := zp_cnt hZ.2.1
    have cd := zp_cnt hZ.2.2
    have ev_ : q_value fs (nI (i + 1)) y = if ev kd f.2 (ptF y) = 0 then -7 else fI (ev kn f.1 (ptF y) * ff_inv (ev kd f.2 (ptF y))) := by
      unfold q_value; rw [hlab]
      show (if ev (cnt f.2) f.2 (ptF y) = 0 then _ else fI (ev (cnt f.1) f.1 (ptF y) * ff_inv (ev (cnt f.2) f.2 (ptF y)))) = _
      rw [cn, cd]
    show Z _ _ _ _ _ _ _ _ 8 _ [.ref (B + 107 + 4 + 5 * i)]
    refine z_astore_n (L' := [(0, .ref B), (1, .int (nI (i + 1))), (2, .int y), (3, .ref (B + 107 + 4 + 5 * i))]) C d_S_value_8 rfl (by decide) rfl ?_
    refine z_aload_n C d_S_value_9 rfl rfl ?_
    refine z_ifnonnull (tgt := 15) C d_S_value_10 (by decide) ?_
    refine z_iload_n C d_S_value_15 rfl rfl ?_
    refine z_sipush (v := 10007) C d_S_value_16 (by decide) ?_
    refine z_callS (rest := []) (n := 2) (As := [.int y, .int 10007]) C (j_floorMod E X.2.1 sz _ y) ⟨z_cb C k_jM_floorMod ml_S_135 ii_jM rfl rfl (by decide +kernel) ⟨by decide, by decide⟩, C.2.2.2.2.1 _ sm_jM_floorMod⟩ rfl rfl (Nat.le_of_ble_eq_true rfl) d_S_value_19 ⟨by decide, by decide⟩ ?_
    intro v_9 s_9 M_9 hp_9
    obtain ⟨rfl, rfl, rfl⟩ := hp_9
    show Z _ _ _ _ _ _ _ _ 22 _ [.int (fI (ptF y))]
    refine z_istore (L' := [(0, .ref B), (1, .int (nI (i + 1))), (2, .int y), (3, .ref (B + 107 + 4 + 5 * i)), (4, .int (fI (ptF y)))]) C d_S_value_22 (by decide) rfl ?_
    refine z_aload_n C d_S_value_24 rfl rfl ?_
    refine z_getN C in_F hZ.1 rfl 1 (by decide) fl_S_141 rfl rfl d_S_value_25 ?_
    refine z_iload C d_S_value_28 rfl ?_
    refine z_callV (rest := []) (n := 1) (As := [.int (fI (ptF y))]) C (p_valueAt E X.2.1 sz _ hZ.2.2 (ptF y)) ⟨z_cb C k_P_valueAt ml_S_145 ii_P rfl rfl (by decide +kernel) ⟨by decide, by decide⟩, C.2.2.2.2.1 _ im_P_valueAt, C.2.2.2.2.1 _ se_P_valueAt⟩ (zp_c0 hZ.2.2) rfl rfl rfl (Nat.le_of_ble_eq_true rfl) d_S_value_30 ⟨by decide, by decide⟩ ?_
    intro v_30 s_30 M_30 hp_30
    obtain ⟨rfl, rfl, rfl⟩ := hp_30
    show Z _ _ _ _ _ _ _ _ 33 _ [.int (fI (ev kd f.2 (ptF y)))]
    refine z_istore (L' := [(0, .ref B), (1, .int (nI (i + 1))), (2, .int y), (3, .ref (B + 107 + 4 + 5 * i)), (4, .int (fI (ptF y))), (5, .int (fI (ev kd f.2 (ptF y))))]) C d_S_value_33 (by decide) rfl ?_
    refine z_iload C d_S_value_35 rfl ?_
    refine z_if_ne (tgt := 43) C d_S_value_37 (by decide) (fun c_37 => ?_) (fun c_37 => ?_)
    · have c_37 : ¬ ev kd f.2 (ptF y) = 0 := fun q => c_37 (fI_eq0.mpr q)
      refine z_aload_n C d_S_value_43 rfl rfl ?_
      refine z_getN C in_F hZ.1 rfl 0 (by decide) fl_S_148 rfl rfl d_S_value_44 ?_
      refine z_iload C d_S_value_47 rfl ?_
      refine z_callV (rest := []) (n := 1) (As := [.int (fI (ptF y))]) C (p_valueAt E X.2.1 sz _ hZ.2.1 (ptF y)) ⟨z_cb C k_P_valueAt ml_S_145 ii_P rfl rfl (by decide +kernel) ⟨by decide, by decide⟩, C.2.2.2.2.1 _ im_P_valueAt, C.2.2.2.2.1 _ se_P_valueAt⟩ (zp_c0 hZ.2.1) rfl rfl rfl (Nat.le_of_ble_eq_true rfl) d_S_value_49 ⟨by decide, by decide⟩ ?_
      intro v_49 s_49 M_49 hp_49
      obtain ⟨rfl, rfl, rfl⟩ := hp_49
      show Z _ _ _ _ _ _ _ _ 52 _ [.int (fI (ev kn f.1 (ptF y)))]
      refine z_iload C d_S_value_52 rfl ?_
      refine z_callS (rest := [.int (fI (ev kn f.1 (ptF y)))]) (n := 1) (As := [.int (fI (ev kd f.2 (ptF y)))]) C (s_inverse E X.2.1 sz _ (ev kd f.2 (ptF y))) ⟨z_cb C k_S_inverse ml_S_151 ii_S rfl rfl (by decide +kernel) ⟨by decide, by decide⟩, C.2.2.2.2.1 _ sm_S_inverse⟩ rfl rfl (Nat.le_of_ble_eq_true rfl) d_S_value_54 ⟨by decide, by decide⟩ ?_
      intro v_54 s_54 M_54 hp_54
      obtain ⟨rfl, rfl, rfl⟩ := hp_54
      show Z _ _ _ _ _ _ _ _ 57 _ [.int (fI (ff_inv (ev kd f.2 (ptF y)))), .int (fI (ev kn f.1 (ptF y)))]
      refine z_imul C d_S_value_57 ?_
      refine z_sipush (v := 10007) C d_S_value_58 (by decide) ?_
      refine z_irem C d_S_value_61 (by decide) ?_
      refine z_top (y := fI (ev kn f.1 (ptF y) * ff_inv (ev kd f.2 (ptF y)))) (fI_mul _ _) ?_
      exact z_iret C ⟨by rw [ev_, if_neg c_37], rfl, rfl⟩ d_S_value_62
    · have c_37 : ev kd f.2 (ptF y) = 0 := fI_eq0.mp c_37
      refine z_bipush (v := (-7)) C d_S_value_40 (by decide) ?_
      exact z_iret C ⟨by rw [ev_, if_pos c_37], rfl, rfl⟩ d_S_value_42
  · have hlab : lab fs x = none := lab_no hno
    show Z _ _ _ _ _ _ _ _ 8 _ [.null]
    refine z_astore_nN (L' := [(0, .ref B), (1, .int x), (2, .int y), (3, .null)]) C d_S_value_8 rfl (by decide) rfl ?_
    refine z_aload_nN C d_S_value_9 rfl rfl ?_
    refine z_ifnonnullN C d_S_value_10 ?_
    refine z_iconst (v := (-1)) C d_S_value_13 (by decide) ?_
    exact z_iret C ⟨by unfold q_value; rw [hlab], rfl, rfl⟩ d_S_value_14
