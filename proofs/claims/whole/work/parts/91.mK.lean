theorem dgs_le (cs : List Nat) : ∀ (K i : Nat), i ≤ dgs cs K i ∧ dgs cs K i ≤ i + K := by
  intro K
  induction K with
  | zero => intro i; exact ⟨Nat.le_refl _, Nat.le_refl _⟩
  | succ K ih =>
    intro i
    rw [dgs]
    split
    · have := ih (i + 1); omega
    · omega
theorem dgs_dig (cs : List Nat) : ∀ (K i j : Nat), i ≤ j → j < dgs cs K i → isD (cs.getD j 0) := by
  intro K
  induction K with
  | zero => intro i j h1 h2; rw [dgs] at h2; omega
  | succ K ih =>
    intro i j h1 h2
    rw [dgs] at h2
    split at h2
    · next q =>
      by_cases e : j = i
      · rw [e]; exact q
      · exact ih (i + 1) j (by omega) h2
    · omega
theorem dgs_len {cs : List Nat} {K i : Nat} (h : i ≤ cs.length) : dgs cs K i ≤ cs.length := by
  rcases Nat.lt_or_ge cs.length (dgs cs K i) with q | q
  · exfalso
    have h1 := dgs_dig cs K i cs.length h q
    rw [getD_out (Nat.le_refl _)] at h1
    omega
  · exact q
theorem dgs_p {cs : List Nat} {i : Nat} (h : isD (cs.getD i 0)) : i < dgs cs 32 i := by
  rw [dgs, if_pos h]
  have := (dgs_le cs 31 (i + 1)).1
  omega
theorem dgs_n {cs : List Nat} {K i : Nat} (h : ¬ isD (cs.getD i 0)) : dgs cs K i = i := by
  cases K with
  | zero => rfl
  | succ K => rw [dgs, if_neg h]
theorem pg_x {F : Nat → FF} {q : Nat} : pg (updF (coF F 71 0 13) 924 1) q = if q = 71 then mono 1 1 else pg F q := by
  funext i
  unfold pg updF coF
  by_cases h : q = 71
  · rw [if_pos h]
    subst h
    unfold mono
    by_cases h1 : i = 1
    · rw [if_pos (by omega), if_pos (by omega), if_pos h1]
    · rw [if_neg h1]
      by_cases hi : i < 13
      · rw [if_pos hi, if_neg (by omega), if_pos (by omega)]; split <;> rfl
      · rw [if_neg hi]
  · rw [if_neg h]
    by_cases hi : i < 13
    · rw [if_pos hi, if_pos hi, if_neg (by omega), if_neg (by omega)]
    · rw [if_neg hi, if_neg hi]
set_option maxHeartbeats 4000000 in
/-- digits -/
theorem m_digits (E : zE) (l : Launch) (sz : Nat) (M : zM) {m : Nat} {xln : Nat → Nat} {xlen : Nat} {xlab : Nat} {xbad : Int32} {xlev : Nat} {xtr : Int32} {xwa : Nat} {xpl : Nat} {xfo : Nat} {xsf : Nat → Nat} {xbf : Nat → Nat} {xF : Nat → FF} {xG : Nat → FF} {xP : Nat → FF} {xQ : Nat → FF} {xmm : Nat → FF} {xsl : Nat → Nat} {xkd : Nat → Nat} {xhs : Nat → Nat} {xht : Nat → Nat} {xsg : Nat → Nat} {xdv : Nat → Nat} (H : mw E M m xln xlen xlab xbad xlev xtr xwa xpl xfo xsf xbf xF xG xP xQ xmm xsl xkd xhs xht xsg xdv) (cs : List Nat) (hlen : xlen = cs.length) (h32 : cs.length ≤ 32) (hln : ∀ i, i < cs.length → xln i = cs.getD i 0) (hch : ∀ i, xln i < 128) (i0 : Nat) (hi0 : i0 ≤ 64) : zMet E l y_M_digits c_M_digits 4 (some .int) { frames := 1, cells := 0, slots := 0, locals := 21 } 0 0 [.ref m, .int (nI i0)] sz M (zRet (some (.int (nI (dgs cs 32 i0)))) sz M) := by
  refine zMet.ofZ (by decide) (Nat.le_of_ble_eq_true rfl) ?_
  intro X hl hini C
  have loop : ∀ (e k i : Nat), k + e = 32 → i ≤ 64 → dgs cs e i = dgs cs 32 i0 → Z X E 4 (zQ X E 0 0 (zRet (some (.int (nI (dgs cs 32 i0)))) sz M)) 0 0 sz M 4 [(0, .ref m), (1, .int (nI i0)), (2, .int (nI i)), (3, .int (nI k))] [] := by
    intro e
    induction e with
    | zero =>
      intro k i hk hi he
      have hk : k = 32 := by omega
      subst hk
      refine z_iload_n C d_M_digits_4 rfl rfl ?_
      refine z_bipush (v := nI 32) C d_M_digits_5 (by decide) ?_
      refine z_icmp_ge (tgt := 40) C d_M_digits_7 (by decide) (fun _ => ?_) (fun c_7 => absurd (by decide) c_7)
      refine z_iload_n C d_M_digits_40 rfl rfl ?_
      exact z_iret C ⟨by rw [← he]; rfl, rfl, rfl⟩ d_M_digits_41
    | succ e ih =>
      intro k i hk hi he
      refine z_iload_n C d_M_digits_4 rfl rfl ?_
      refine z_bipush (v := nI 32) C d_M_digits_5 (by decide) ?_
      refine z_icmp_ge (tgt := 40) C d_M_digits_7 (by decide) (fun c_7 => absurd c_7 (fun q => absurd ((nI_leI (a := 32) (b := k) (by omega) (by omega)).mp q) (by omega))) (fun _ => ?_)
      refine z_iload_n C d_M_digits_10 rfl rfl ?_
      refine z_aload_n C d_M_digits_11 rfl rfl ?_
      refine z_get C in_M H.1 rfl 1 (by decide) fl_M_67 rfl rfl d_M_digits_12 ?_
      refine z_icmp_ge (tgt := 40) C d_M_digits_15 (by decide) (fun c_15 => ?_) (fun c_15 => ?_)
      · have c_15 : xlen ≤ i := (nI_leI (a := xlen) (b := i) (by omega) (by omega)).mp c_15
        refine z_iload_n C d_M_digits_40 rfl rfl ?_
        have hnd : ¬ isD (cs.getD i 0) := by
          first | (rw [← hln i (by omega)]; exact c_28) | (rw [getD_out (by omega)]; decide)
        exact z_iret C ⟨by rw [← he, dgs_n hnd], rfl, rfl⟩ d_M_digits_41
      · have c_15 : i < xlen := Nat.not_le.mp (fun q => c_15 ((nI_leI (a := xlen) (b := i) (by omega) (by omega)).mpr q))
        refine z_aload_n C d_M_digits_18 rfl rfl ?_
        refine z_aload_n C d_M_digits_19 rfl rfl ?_
        refine z_get C in_M H.1 rfl 0 (by decide) fl_M_7 rfl rfl d_M_digits_20 ?_
        refine z_iload_n C d_M_digits_23 rfl rfl ?_
        refine z_iald C H.2.1 0 rfl i (rfl) (by omega) (by omega) d_M_digits_24 ?_
        refine z_top (y := nI (xln i)) rfl ?_
        refine z_callV (rest := []) (n := 1) (As := [.int (nI (xln i))]) C (m_digitN E X.2.1 sz _ H (xln i) (by have := hch i; omega)) ⟨z_cb C k_M_digit ml_M_57 ii_M rfl rfl (by decide +kernel) ⟨by decide, by decide⟩, C.2.2.2.2.1 _ im_M_digit, C.2.2.2.2.1 _ se_M_digit⟩ H.1 rfl rfl rfl (Nat.le_of_ble_eq_true rfl) d_M_digits_25 ⟨by decide, by decide⟩ ?_
        intro v_25 s_25 M_25 hp_25
        obtain ⟨rfl, rfl, rfl⟩ := hp_25
        show Z _ _ _ _ _ _ _ _ 28 _ [.int (nI (b01 (isD (xln i))))]
        refine z_if_eq (tgt := 40) C d_M_digits_28 (by decide) (fun c_28 => ?_) (fun c_28 => ?_)
        · have c_28 : ¬ (isD (xln i)) := b01_z c_28
          refine z_iload_n C d_M_digits_40 rfl rfl ?_
          have hnd : ¬ isD (cs.getD i 0) := by
            first | (rw [← hln i (by omega)]; exact c_28) | (rw [getD_out (by omega)]; decide)
          exact z_iret C ⟨by rw [← he, dgs_n hnd], rfl, rfl⟩ d_M_digits_41
        · have c_28 : (isD (xln i)) := b01_ne c_28
          refine z_iinc (v := nI (i + 1)) (L' := [(0, .ref m), (1, .int (nI i0)), (2, .int (nI (i + 1))), (3, .int (nI k))]) C d_M_digits_31 rfl (nI_add _ 1) (by decide) rfl ?_
          refine z_iinc (v := nI (k + 1)) (L' := [(0, .ref m), (1, .int (nI i0)), (2, .int (nI (i + 1))), (3, .int (nI (k + 1)))]) C d_M_digits_34 rfl (nI_add _ 1) (by decide) rfl ?_
          refine z_goto (tgt := 4) C d_M_digits_37 (by decide) ?_
          have hd : isD (cs.getD i 0) := by rw [← hln i (by omega)]; exact c_28
          exact ih (k + 1) (i + 1) (by omega) (by omega) (by rw [← he, dgs, if_pos hd])
  show Z X E 4 _ 0 0 sz M 0 [(0, .ref m), (1, .int (nI i0))] []
  refine z_iload_n C d_M_digits_0 rfl rfl ?_
  refine z_istore_n (L' := [(0, .ref m), (1, .int (nI i0)), (2, .int (nI i0))]) C d_M_digits_1 rfl (by decide) rfl ?_
  refine z_iconst (v := nI 0) C d_M_digits_2 (by decide) ?_
  refine z_istore_n (L' := [(0, .ref m), (1, .int (nI i0)), (2, .int (nI i0)), (3, .int (nI 0))]) C d_M_digits_3 rfl (by decide) rfl ?_
  exact loop 32 0 i0 (by omega) (by omega) rfl
set_option maxHeartbeats 4000000 in
/-- worth -/
theorem m_worth (E : zE) (l : Launch) (sz : Nat) (M : zM) {m : Nat} {xln : Nat → Nat} {xlen : Nat} {xlab : Nat} {xbad : Int32} {xlev : Nat} {xtr : Int32} {xwa : Nat} {xpl : Nat} {xfo : Nat} {xsf : Nat → Nat} {xbf : Nat → Nat} {xF : Nat → FF} {xG : Nat → FF} {xP : Nat → FF} {xQ : Nat → FF} {xmm : Nat → FF} {xsl : Nat → Nat} {xkd : Nat → Nat} {xhs : Nat → Nat} {xht : Nat → Nat} {xsg : Nat → Nat} {xdv : Nat → Nat} (H : mw E M m xln xlen xlab xbad xlev xtr xwa xpl xfo xsf xbf xF xG xP xQ xmm xsl xkd xhs xht xsg xdv) (cs : List Nat) (hlen : xlen = cs.length) (h32 : cs.length ≤ 32) (hln : ∀ i, i < cs.length → xln i = cs.getD i 0) (hch : ∀ i, xln i < 128) (f0 t0 : Nat) (hft : f0 ≤ t0) (ht0 : t0 ≤ cs.length) (hdig : ∀ i, f0 ≤ i → i < t0 → isD (cs.getD i 0)) : zMet E l y_M_worth c_M_worth 5 (some .int) { frames := 0, cells := 0, slots := 0, locals := 0 } 0 0 [.ref m, .int (nI f0), .int (nI t0)] sz M (zRet (some (.int (nI (wth cs (t0 - f0) 0 f0)))) sz M) := by
  refine zMet.ofZ (by decide) (Nat.le_of_ble_eq_true rfl) ?_
  intro X hl hini C
  have loop : ∀ (e i v0 : Nat), i + e = t0 → f0 ≤ i → wth cs e v0 i = wth cs (t0 - f0) 0 f0 → Z X E 5 (zQ X E 0 0 (zRet (some (.int (nI (wth cs (t0 - f0) 0 f0)))) sz M)) 0 0 sz M 5 [(0, .ref m), (1, .int (nI f0)), (2, .int (nI t0)), (3, .int (nI v0)), (4, .int (nI i))] [] := by
    intro e
    induction e with
    | zero =>
      intro i v0 hi hf he
      have hi : i = t0 := by omega
      subst hi
      refine z_iload C d_M_worth_5 rfl ?_
      refine z_iload_n C d_M_worth_7 rfl rfl ?_
      refine z_icmp_ge (tgt := 33) C d_M_worth_8 (by decide) (fun _ => ?_) (fun c_8 => absurd (Int32.le_refl _) c_8)
      refine z_iload_n C d_M_worth_33 rfl rfl ?_
      exact z_iret C ⟨by rw [← he]; rfl, rfl, rfl⟩ d_M_worth_34
    | succ e ih =>
      intro i v0 hi hf he
      have hd := hdig i hf (by omega)
      have hl := hln i (by omega)
      refine z_iload C d_M_worth_5 rfl ?_
      refine z_iload_n C d_M_worth_7 rfl rfl ?_
      refine z_icmp_ge (tgt := 33) C d_M_worth_8 (by decide) (fun c_8 => absurd c_8 (fun q => absurd ((nI_leI (a := t0) (b := i) (by omega) (by omega)).mp q) (by omega))) (fun _ => ?_)
      refine z_iload_n C d_M_worth_11 rfl rfl ?_
      refine z_bipush (v := nI 10) C d_M_worth_12 (by decide) ?_
      refine z_imul C d_M_worth_14 ?_
      refine z_top (y := nI (v0 * 10)) (pk_mul _ _) ?_
      refine z_aload_n C d_M_worth_15 rfl rfl ?_
      refine z_get C in_M H.1 rfl 0 (by decide) fl_M_7 rfl rfl d_M_worth_16 ?_
      refine z_iload C d_M_worth_19 rfl ?_
      refine z_iald C H.2.1 0 rfl i (rfl) (by omega) (by omega) d_M_worth_21 ?_
      refine z_top (y := nI (xln i)) rfl ?_
      refine z_iadd C d_M_worth_22 ?_
      refine z_top (y := nI ((v0 * 10) + (xln i))) (nI_add _ _) ?_
      refine z_bipush (v := nI 48) C d_M_worth_23 (by decide) ?_
      refine z_isub C d_M_worth_25 ?_
      refine z_top (y := nI (((v0 * 10) + (xln i)) - 48)) (pk_sub (by omega)) ?_
      refine z_istore_n (L' := [(0, .ref m), (1, .int (nI f0)), (2, .int (nI t0)), (3, .int (nI (((v0 * 10) + (xln i)) - 48))), (4, .int (nI i))]) C d_M_worth_26 rfl (by decide) rfl ?_
      refine z_iinc (v := nI (i + 1)) (L' := [(0, .ref m), (1, .int (nI f0)), (2, .int (nI t0)), (3, .int (nI (((v0 * 10) + (xln i)) - 48))), (4, .int (nI (i + 1)))]) C d_M_worth_27 rfl (nI_add _ 1) (by decide) rfl ?_
      refine z_goto (tgt := 5) C d_M_worth_30 (by decide) ?_
      refine ih (i + 1) _ (by omega) (by omega) ?_
      rw [← he, wth, ← hl]
      congr 1
      omega
  show Z X E 5 _ 0 0 sz M 0 [(0, .ref m), (1, .int (nI f0)), (2, .int (nI t0))] []
  refine z_iconst (v := nI 0) C d_M_worth_0 (by decide) ?_
  refine z_istore_n (L' := [(0, .ref m), (1, .int (nI f0)), (2, .int (nI t0)), (3, .int (nI 0))]) C d_M_worth_1 rfl (by decide) rfl ?_
  refine z_iload_n C d_M_worth_2 rfl rfl ?_
  refine z_istore (L' := [(0, .ref m), (1, .int (nI f0)), (2, .int (nI t0)), (3, .int (nI 0)), (4, .int (nI f0))]) C d_M_worth_3 (by decide) rfl ?_
  exact loop (t0 - f0) f0 0 (by omega) (Nat.le_refl _) rfl
set_option maxHeartbeats 4000000 in
/-- atom -/
theorem m_atom1 (E : zE) (l : Launch) (sz : Nat) (M : zM) {m : Nat} {xln : Nat → Nat} {xlen : Nat} {xlab : Nat} {xbad : Int32} {xlev : Nat} {xtr : Int32} {xwa : Nat} {xpl : Nat} {xfo : Nat} {xsf : Nat → Nat} {xbf : Nat → Nat} {xF : Nat → FF} {xG : Nat → FF} {xP : Nat → FF} {xQ : Nat → FF} {xmm : Nat → FF} {xsl : Nat → Nat} {xkd : Nat → Nat} {xhs : Nat → Nat} {xht : Nat → Nat} {xsg : Nat → Nat} {xdv : Nat → Nat} (H : mw E M m xln xlen xlab xbad xlev xtr xwa xpl xfo xsf xbf xF xG xP xQ xmm xsl xkd xhs xht xsg xdv) (R : Nat → PS × PS) (hR : relR R xF xG) (htr : xtr = 0) (hlev : xlev ≤ 8) (hkd : ∀ j, xkd j < 100) (cs : List Nat) (hlen : xlen = cs.length) (h32 : cs.length ≤ 32) (hln : ∀ i, i < cs.length → xln i = cs.getD i 0) (hch : ∀ i, xln i < 128) (fs : List (PS × PS)) (nb : Nat → Nat) (hlab : xlab = fs.length) (h40 : fs.length ≤ 40) (hfs : ∀ (n : Nat) f, fs[n]? = some f → R (n + 1) = f) (hbf : ∀ j, j < 3 → xbf j = nb j ∧ nb j ≤ fs.length) (i0 : Nat) (hi0 : i0 < cs.length) (hok : isD (cs.getD i0 0) ∧ wth cs (dgs cs 32 i0 - i0) 0 i0 ≤ 99999 ∨ cs.getD i0 0 = 120 ∨ cs.getD i0 0 = 37 ∧ wth cs (dgs cs 32 (i0 + 1) - (i0 + 1)) 0 (i0 + 1) ≤ 99 ∨ isNm (cs.getD i0 0)) : zMet E l y_M_atom c_M_atom 5 (some .int) { frames := 2, cells := 0, slots := 0, locals := 44 } 0 0 [.ref m, .int (nI i0)] sz M (eP E M sz m xln xlen xlab xbad xlev xtr xwa xpl xfo xsf xbf xF xG xP xQ xmm xsl xkd xhs xht xsg xdv (some (.int (nI (m_atom cs fs nb i0).1))) (m_put (m_atom cs fs nb i0).2 (R, xlev, xkd, xhs, xht, xsg, xdv))) := by
  have hc := hln i0 hi0
  have hdl := dgs_le cs 32 i0
  have hdl2 := dgs_le cs 32 (i0 + 1)
  have hlast : dgs cs 32 i0 ≤ cs.length := dgs_len (by omega)
  have hlast2 : dgs cs 32 (i0 + 1) ≤ cs.length := dgs_len (by omega)
  refine zMet.ofZ (by decide) (Nat.le_of_ble_eq_true rfl) ?_
  intro X hl hini C
  show Z X E 5 _ 0 0 sz M 0 [(0, .ref m), (1, .int (nI i0))] []
  refine z_aload_n C d_M_atom_0 rfl rfl ?_
  refine z_get C in_M H.1 rfl 0 (by decide) fl_M_7 rfl rfl d_M_atom_1 ?_
  refine z_iload_n C d_M_atom_4 rfl rfl ?_
  refine z_iald C H.2.1 0 rfl i0 (rfl) (by omega) (by omega) d_M_atom_5 ?_
  refine z_top (y := nI (xln i0)) rfl ?_
  refine z_istore_n (L' := [(0, .ref m), (1, .int (nI i0)), (2, .int (nI (xln i0)))]) C d_M_atom_6 rfl (by decide) rfl ?_
  refine z_aload_n C d_M_atom_7 rfl rfl ?_
  refine z_iload_n C d_M_atom_8 rfl rfl ?_
  refine z_callV (rest := []) (n := 1) (As := [.int (nI i0)]) C (m_digits E X.2.1 sz _ H cs hlen h32 hln hch i0 (by omega)) ⟨z_cb C k_M_digits ml_M_161 ii_M rfl rfl (by decide +kernel) ⟨by decide, by decide⟩, C.2.2.2.2.1 _ im_M_digits, C.2.2.2.2.1 _ se_M_digits⟩ H.1 rfl rfl rfl (Nat.le_of_ble_eq_true rfl) d_M_atom_9 ⟨by decide, by decide⟩ ?_
  intro v_9 s_9 M_9 hp_9
  obtain ⟨rfl, rfl, rfl⟩ := hp_9
  show Z _ _ _ _ _ _ _ _ 12 _ [.int (nI (dgs cs 32 i0))]
  refine z_istore_n (L' := [(0, .ref m), (1, .int (nI i0)), (2, .int (nI (xln i0))), (3, .int (nI (dgs cs 32 i0)))]) C d_M_atom_12 rfl (by decide) rfl ?_
  refine z_iload_n C d_M_atom_13 rfl rfl ?_
  refine z_iload_n C d_M_atom_14 rfl rfl ?_
  refine z_icmp_le (tgt := 36) C d_M_atom_15 (by decide) (fun c_15 => ?_) (fun c_15 => ?_)
  · have c_15 : (dgs cs 32 i0) ≤ i0 := (nI_leI (a := (dgs cs 32 i0)) (b := i0) (by omega) (by omega)).mp c_15
    have hd : ¬ isD (cs.getD i0 0) := fun q => by have := dgs_p q; omega
    refine z_iload_n C d_M_atom_36 rfl rfl ?_
    refine z_bipush (v := nI 120) C d_M_atom_37 (by decide) ?_
    refine z_icmp_ne (tgt := 62) C d_M_atom_39 (by decide) (fun c_39 => ?_) (fun c_39 => ?_)
    · have c_39 : ¬ (xln i0) = 120 := fun q => c_39 (congrArg nI q)
      refine z_iload_n C d_M_atom_62 rfl rfl ?_
      refine z_bipush (v := nI 37) C d_M_atom_63 (by decide) ?_
      refine z_icmp_ne (tgt := 78) C d_M_atom_65 (by decide) (fun c_65 => ?_) (fun c_65 => ?_)
      · have c_65 : ¬ (xln i0) = 37 := fun q => c_65 (congrArg nI q)
        refine z_iload_n C d_M_atom_78 rfl rfl ?_
        refine z_iconst (v := nI 1) C d_M_atom_79 (by decide) ?_
        refine z_iadd C d_M_atom_80 ?_
        refine z_top (y := nI (i0 + 1)) (nI_add _ _) ?_
        refine z_istore_n (L' := [(0, .ref m), (1, .int (nI i0)), (2, .int (nI (xln i0))), (3, .int (nI (i0 + 1)))]) C d_M_atom_81 rfl (by decide) rfl ?_
        refine z_iload_n C d_M_atom_82 rfl rfl ?_
        refine z_bipush (v := nI 37) C d_M_atom_83 (by decide) ?_
        refine z_icmp_ne (tgt := 99) C d_M_atom_85 (by decide) (fun _ => ?_) (fun c_85 => absurd c_85 (fun q => c_65 ((nI_eq (by have := hch i0; omega) (by omega)).mp q)))
        have hbb := hbf (xln i0 - 97) (by omega)
        refine z_aload_n C d_M_atom_99 rfl rfl ?_
        refine z_get C in_M H.1 rfl 10 (by decide) fl_M_20 rfl rfl d_M_atom_100 ?_
        refine z_iload_n C d_M_atom_103 rfl rfl ?_
        refine z_bipush (v := nI 97) C d_M_atom_104 (by decide) ?_
        refine z_isub C d_M_atom_106 ?_
        refine z_top (y := nI ((xln i0) - 97)) (pk_sub (by omega)) ?_
        refine z_iald C H.2.2.2.1 0 rfl ((xln i0) - 97) (rfl) (by omega) (by omega) d_M_atom_107 ?_
        refine z_top (y := nI (xbf ((xln i0) - 97))) rfl ?_
        refine z_istore (L' := [(0, .ref m), (1, .int (nI i0)), (2, .int (nI (xln i0))), (3, .int (nI (i0 + 1))), (4, .int (nI (xbf ((xln i0) - 97))))]) C d_M_atom_108 (by decide) rfl ?_
        refine z_iload C d_M_atom_110 rfl ?_
        refine z_iconst (v := nI 1) C d_M_atom_112 (by decide) ?_
        refine z_icmp_lt (tgt := 125) C d_M_atom_113 (by decide) (fun c_113 => ?_) (fun c_113 => ?_)
        · have c_113 : (xbf ((xln i0) - 97)) < 1 := (nI_ltI (a := (xbf ((xln i0) - 97))) (b := 1) (by omega) (by omega)).mp c_113
          refine z_aload_n C d_M_atom_125 rfl rfl ?_
          refine z_bipush (v := -4) C d_M_atom_126 (by decide) ?_
          refine z_put C in_M ty_M tok_M nm_M H.1 rfl 5 (by decide) fl_M_119 rfl rfl rfl (rfl) (rfl) (Nat.le_of_ble_eq_true rfl) d_M_atom_128 ?_
          show Z _ _ _ _ _ _ _ (zU M m (.inr (10, [.ref (m + 1), .int (nI xlen), .int (nI xlab), .int xbad, .int (nI xlev), .int (-4), .int (nI xwa), .int (nI xpl), .int (nI xfo), .ref (m + 2), .ref (m + 3), .ref (m + 4), .ref (m + 5), .ref (m + 6), .ref (m + 7), .ref (m + 8), .ref (m + 9), .ref (m + 10), .ref (m + 11), .ref (m + 12), .ref (m + 13), .ref (m + 14)]))) _ _ _
          refine z_goto (tgt := 142) C d_M_atom_131 (by decide) ?_
          refine z_iload_n C d_M_atom_142 rfl rfl ?_
          have ea : (m_atom cs fs nb i0) = ((i0 + 1), labF fs (nb (cs.getD i0 0 - 97))) := by
            unfold m_atom
            rw [if_neg hd, if_neg (by omega), if_neg (by omega)]
          have elb : (xbf ((xln i0) - 97)) = nb (cs.getD i0 0 - 97) := by rw [(hbf _ (by omega)).1, hc]
          have el : labF fs (nb (cs.getD i0 0 - 97)) = .inl (-4) := by
            unfold labF
            by_cases z : nb (cs.getD i0 0 - 97) = 0
            · rw [if_pos z]
            · rw [if_neg z, List.getElem?_eq_none (by omega)]
          refine z_iret C ⟨by rw [ea], rfl, (zoutR_tr zoutR_rf (zo_u (by omega) (by omega))), xlev, -4, xF, xG, xP, xQ, xmm, xsl, xkd, xhs, xht, xsg, xdv, (mw_o H xlen xlab xbad xlev (-4) xwa xpl xfo), fun q hq => ⟨rfl, rfl⟩, hkd, by omega, ?_⟩ d_M_atom_143
          rw [ea]
          simp only
          rw [el]
          exact ⟨rfl, by decide⟩
        · have c_113 : 1 ≤ (xbf ((xln i0) - 97)) := Nat.not_lt.mp (fun q => c_113 ((nI_ltI (a := (xbf ((xln i0) - 97))) (b := 1) (by omega) (by omega)).mpr q))
          refine z_iload C d_M_atom_116 rfl ?_
          refine z_aload_n C d_M_atom_118 rfl rfl ?_
          refine z_get C in_M H.1 rfl 2 (by decide) fl_M_167 rfl rfl d_M_atom_119 ?_
          refine z_icmp_le (tgt := 134) C d_M_atom_122 (by decide) (fun c_122 => ?_) (fun c_122 => ?_)
          · have c_122 : (xbf ((xln i0) - 97)) ≤ xlab := (nI_leI (a := (xbf ((xln i0) - 97))) (b := xlab) (by omega) (by omega)).mp c_122
            refine z_aload_n C d_M_atom_134 rfl rfl ?_
            refine z_iload C d_M_atom_135 rfl ?_
            refine z_bipush (v := nI 71) C d_M_atom_137 (by decide) ?_
            refine z_callV (rest := []) (n := 2) (As := [.int (nI (xbf ((xln i0) - 97))), .int (nI 71)]) C (m_copy E X.2.1 sz _ H ((xbf ((xln i0) - 97))) 71 (by omega) (by decide) (by omega)) ⟨z_cb C k_M_copy ml_M_137 ii_M rfl rfl (by decide +kernel) ⟨by decide, by decide⟩, C.2.2.2.2.1 _ im_M_copy, C.2.2.2.2.1 _ se_M_copy⟩ H.1 rfl rfl rfl (Nat.le_of_ble_eq_true rfl) d_M_atom_139 ⟨by decide, by decide⟩ ?_
            intro v_139 s_139 M_139 hp_139
            obtain ⟨rfl, rfl, ho_139, H_139⟩ := hp_139
            have hz_139 : zoutR M M_139 m (m + 15) := zoutR_tr zoutR_rf ho_139
            show Z _ _ _ _ _ _ _ _ 142 _ []
            refine z_iload_n C d_M_atom_142 rfl rfl ?_
            have ea : (m_atom cs fs nb i0) = ((i0 + 1), labF fs (nb (cs.getD i0 0 - 97))) := by
              unfold m_atom
              rw [if_neg hd, if_neg (by omega), if_neg (by omega)]
            have elb : (xbf ((xln i0) - 97)) = nb (cs.getD i0 0 - 97) := by rw [(hbf _ (by omega)).1, hc]
            obtain ⟨n9, en9⟩ : ∃ n9, nb (cs.getD i0 0 - 97) = n9 + 1 := ⟨nb (cs.getD i0 0 - 97) - 1, by omega⟩
            have hn9 : n9 < fs.length := by omega
            have el : labF fs (nb (cs.getD i0 0 - 97)) = .inr fs[n9] := by
              unfold labF; rw [en9, if_neg (by omega), Nat.add_sub_cancel, List.getElem?_eq_getElem hn9]
            have hr9 : R (n9 + 1) = fs[n9] := hfs n9 _ (List.getElem?_eq_getElem hn9)
            rw [hR _ (by omega)] at hr9
            refine z_iret C ⟨by rw [ea], rfl, hz_139, xlev, xtr, (cpF xF ((xbf ((xln i0) - 97))) 71 13), (cpF xG ((xbf ((xln i0) - 97))) 71 13), xP, xQ, xmm, xsl, xkd, xhs, xht, xsg, xdv, H_139, fun q hq => ⟨by rw [pg_cp, if_neg (by omega)], by rw [pg_cp, if_neg (by omega)]⟩, hkd, by omega, ?_⟩ d_M_atom_143
            rw [ea]
            simp only
            rw [el]
            exact ⟨htr, rfl, relR_u hR (fun q hq => ⟨by rw [pg_cp, if_neg hq.2], by rw [pg_cp, if_neg hq.2]⟩) (by rw [pg_cp, if_pos rfl, elb, en9, ← hr9]) (by rw [pg_cp, if_pos rfl, elb, en9, ← hr9])⟩
          · have c_122 : xlab < (xbf ((xln i0) - 97)) := Nat.not_le.mp (fun q => c_122 ((nI_leI (a := (xbf ((xln i0) - 97))) (b := xlab) (by omega) (by omega)).mpr q))
            refine z_aload_n C d_M_atom_125 rfl rfl ?_
            refine z_bipush (v := -4) C d_M_atom_126 (by decide) ?_
            refine z_put C in_M ty_M tok_M nm_M H.1 rfl 5 (by decide) fl_M_119 rfl rfl rfl (rfl) (rfl) (Nat.le_of_ble_eq_true rfl) d_M_atom_128 ?_
            show Z _ _ _ _ _ _ _ (zU M m (.inr (10, [.ref (m + 1), .int (nI xlen), .int (nI xlab), .int xbad, .int (nI xlev), .int (-4), .int (nI xwa), .int (nI xpl), .int (nI xfo), .ref (m + 2), .ref (m + 3), .ref (m + 4), .ref (m + 5), .ref (m + 6), .ref (m + 7), .ref (m + 8), .ref (m + 9), .ref (m + 10), .ref (m + 11), .ref (m + 12), .ref (m + 13), .ref (m + 14)]))) _ _ _
            refine z_goto (tgt := 142) C d_M_atom_131 (by decide) ?_
            refine z_iload_n C d_M_atom_142 rfl rfl ?_
            have ea : (m_atom cs fs nb i0) = ((i0 + 1), labF fs (nb (cs.getD i0 0 - 97))) := by
              unfold m_atom
              rw [if_neg hd, if_neg (by omega), if_neg (by omega)]
            have elb : (xbf ((xln i0) - 97)) = nb (cs.getD i0 0 - 97) := by rw [(hbf _ (by omega)).1, hc]
            have el : labF fs (nb (cs.getD i0 0 - 97)) = .inl (-4) := by
              unfold labF
              by_cases z : nb (cs.getD i0 0 - 97) = 0
              · rw [if_pos z]
              · rw [if_neg z, List.getElem?_eq_none (by omega)]
            refine z_iret C ⟨by rw [ea], rfl, (zoutR_tr zoutR_rf (zo_u (by omega) (by omega))), xlev, -4, xF, xG, xP, xQ, xmm, xsl, xkd, xhs, xht, xsg, xdv, (mw_o H xlen xlab xbad xlev (-4) xwa xpl xfo), fun q hq => ⟨rfl, rfl⟩, hkd, by omega, ?_⟩ d_M_atom_143
            rw [ea]
            simp only
            rw [el]
            exact ⟨rfl, by decide⟩
      · have c_65 : (xln i0) = 37 := (nI_eq (a := (xln i0)) (b := 37) (by omega) (by omega)).mp c_65
        refine z_aload_n C d_M_atom_68 rfl rfl ?_
        refine z_iload_n C d_M_atom_69 rfl rfl ?_
        refine z_iconst (v := nI 1) C d_M_atom_70 (by decide) ?_
        refine z_iadd C d_M_atom_71 ?_
        refine z_top (y := nI (i0 + 1)) (nI_add _ _) ?_
        refine z_callV (rest := []) (n := 1) (As := [.int (nI (i0 + 1))]) C (m_digits E X.2.1 sz _ H cs hlen h32 hln hch (i0 + 1) (by omega)) ⟨z_cb C k_M_digits ml_M_161 ii_M rfl rfl (by decide +kernel) ⟨by decide, by decide⟩, C.2.2.2.2.1 _ im_M_digits, C.2.2.2.2.1 _ se_M_digits⟩ H.1 rfl rfl rfl (Nat.le_of_ble_eq_true rfl) d_M_atom_72 ⟨by decide, by decide⟩ ?_
        intro v_72 s_72 M_72 hp_72
        obtain ⟨rfl, rfl, rfl⟩ := hp_72
        show Z _ _ _ _ _ _ _ _ 75 _ [.int (nI (dgs cs 32 (i0 + 1)))]
        refine z_goto (tgt := 81) C d_M_atom_75 (by decide) ?_
        refine z_istore_n (L' := [(0, .ref m), (1, .int (nI i0)), (2, .int (nI (xln i0))), (3, .int (nI (dgs cs 32 (i0 + 1))))]) C d_M_atom_81 rfl (by decide) rfl ?_
        refine z_iload_n C d_M_atom_82 rfl rfl ?_
        refine z_bipush (v := nI 37) C d_M_atom_83 (by decide) ?_
        refine z_icmp_ne (tgt := 99) C d_M_atom_85 (by decide) (fun c_85 => absurd c_85 (fun q => q (congrArg nI c_65))) (fun _ => ?_)
        have hw2 : wth cs (dgs cs 32 (i0 + 1) - (i0 + 1)) 0 (i0 + 1) ≤ 99 := by omega
        refine z_aload_n C d_M_atom_88 rfl rfl ?_
        refine z_iload_n C d_M_atom_89 rfl rfl ?_
        refine z_iconst (v := nI 1) C d_M_atom_90 (by decide) ?_
        refine z_iadd C d_M_atom_91 ?_
        refine z_top (y := nI (i0 + 1)) (nI_add _ _) ?_
        refine z_iload_n C d_M_atom_92 rfl rfl ?_
        refine z_callV (rest := []) (n := 2) (As := [.int (nI (i0 + 1)), .int (nI (dgs cs 32 (i0 + 1)))]) C (m_worth E X.2.1 sz _ H cs hlen h32 hln hch (i0 + 1) (dgs cs 32 (i0 + 1)) (by omega) (by omega) (fun i h1 h2 => dgs_dig cs 32 (i0 + 1) i h1 h2)) ⟨z_cb C k_M_worth ml_M_164 ii_M rfl rfl (by decide +kernel) ⟨by decide, by decide⟩, C.2.2.2.2.1 _ im_M_worth, C.2.2.2.2.1 _ se_M_worth⟩ H.1 rfl rfl rfl (Nat.le_of_ble_eq_true rfl) d_M_atom_93 ⟨by decide, by decide⟩ ?_
        intro v_93 s_93 M_93 hp_93
        obtain ⟨rfl, rfl, rfl⟩ := hp_93
        show Z _ _ _ _ _ _ _ _ 96 _ [.int (nI (wth cs (dgs cs 32 (i0 + 1) - (i0 + 1)) 0 (i0 + 1)))]
        refine z_goto (tgt := 108) C d_M_atom_96 (by decide) ?_
        refine z_istore (L' := [(0, .ref m), (1, .int (nI i0)), (2, .int (nI (xln i0))), (3, .int (nI (dgs cs 32 (i0 + 1)))), (4, .int (nI (wth cs (dgs cs 32 (i0 + 1) - (i0 + 1)) 0 (i0 + 1))))]) C d_M_atom_108 (by decide) rfl ?_
        refine z_iload C d_M_atom_110 rfl ?_
        refine z_iconst (v := nI 1) C d_M_atom_112 (by decide) ?_
        refine z_icmp_lt (tgt := 125) C d_M_atom_113 (by decide) (fun c_113 => ?_) (fun c_113 => ?_)
        · have c_113 : (wth cs (dgs cs 32 (i0 + 1) - (i0 + 1)) 0 (i0 + 1)) < 1 := (nI_ltI (a := (wth cs (dgs cs 32 (i0 + 1) - (i0 + 1)) 0 (i0 + 1))) (b := 1) (by omega) (by omega)).mp c_113
          refine z_aload_n C d_M_atom_125 rfl rfl ?_
          refine z_bipush (v := -4) C d_M_atom_126 (by decide) ?_
          refine z_put C in_M ty_M tok_M nm_M H.1 rfl 5 (by decide) fl_M_119 rfl rfl rfl (rfl) (rfl) (Nat.le_of_ble_eq_true rfl) d_M_atom_128 ?_
          show Z _ _ _ _ _ _ _ (zU M m (.inr (10, [.ref (m + 1), .int (nI xlen), .int (nI xlab), .int xbad, .int (nI xlev), .int (-4), .int (nI xwa), .int (nI xpl), .int (nI xfo), .ref (m + 2), .ref (m + 3), .ref (m + 4), .ref (m + 5), .ref (m + 6), .ref (m + 7), .ref (m + 8), .ref (m + 9), .ref (m + 10), .ref (m + 11), .ref (m + 12), .ref (m + 13), .ref (m + 14)]))) _ _ _
          refine z_goto (tgt := 142) C d_M_atom_131 (by decide) ?_
          refine z_iload_n C d_M_atom_142 rfl rfl ?_
          have ea : (m_atom cs fs nb i0) = ((dgs cs 32 (i0 + 1)), labF fs (wth cs (dgs cs 32 (i0 + 1) - (i0 + 1)) 0 (i0 + 1))) := by
            unfold m_atom
            rw [if_neg hd, if_neg (by omega), if_pos (by omega)]
          have elb : (wth cs (dgs cs 32 (i0 + 1) - (i0 + 1)) 0 (i0 + 1)) = wth cs (dgs cs 32 (i0 + 1) - (i0 + 1)) 0 (i0 + 1) := rfl
          have el : labF fs (wth cs (dgs cs 32 (i0 + 1) - (i0 + 1)) 0 (i0 + 1)) = .inl (-4) := by
            unfold labF
            by_cases z : wth cs (dgs cs 32 (i0 + 1) - (i0 + 1)) 0 (i0 + 1) = 0
            · rw [if_pos z]
            · rw [if_neg z, List.getElem?_eq_none (by omega)]
          refine z_iret C ⟨by rw [ea], rfl, (zoutR_tr zoutR_rf (zo_u (by omega) (by omega))), xlev, -4, xF, xG, xP, xQ, xmm, xsl, xkd, xhs, xht, xsg, xdv, (mw_o H xlen xlab xbad xlev (-4) xwa xpl xfo), fun q hq => ⟨rfl, rfl⟩, hkd, by omega, ?_⟩ d_M_atom_143
          rw [ea]
          simp only
          rw [el]
          exact ⟨rfl, by decide⟩
        · have c_113 : 1 ≤ (wth cs (dgs cs 32 (i0 + 1) - (i0 + 1)) 0 (i0 + 1)) := Nat.not_lt.mp (fun q => c_113 ((nI_ltI (a := (wth cs (dgs cs 32 (i0 + 1) - (i0 + 1)) 0 (i0 + 1))) (b := 1) (by omega) (by omega)).mpr q))
          refine z_iload C d_M_atom_116 rfl ?_
          refine z_aload_n C d_M_atom_118 rfl rfl ?_
          refine z_get C in_M H.1 rfl 2 (by decide) fl_M_167 rfl rfl d_M_atom_119 ?_
          refine z_icmp_le (tgt := 134) C d_M_atom_122 (by decide) (fun c_122 => ?_) (fun c_122 => ?_)
          · have c_122 : (wth cs (dgs cs 32 (i0 + 1) - (i0 + 1)) 0 (i0 + 1)) ≤ xlab := (nI_leI (a := (wth cs (dgs cs 32 (i0 + 1) - (i0 + 1)) 0 (i0 + 1))) (b := xlab) (by omega) (by omega)).mp c_122
            refine z_aload_n C d_M_atom_134 rfl rfl ?_
            refine z_iload C d_M_atom_135 rfl ?_
            refine z_bipush (v := nI 71) C d_M_atom_137 (by decide) ?_
            refine z_callV (rest := []) (n := 2) (As := [.int (nI (wth cs (dgs cs 32 (i0 + 1) - (i0 + 1)) 0 (i0 + 1))), .int (nI 71)]) C (m_copy E X.2.1 sz _ H ((wth cs (dgs cs 32 (i0 + 1) - (i0 + 1)) 0 (i0 + 1))) 71 (by omega) (by decide) (by omega)) ⟨z_cb C k_M_copy ml_M_137 ii_M rfl rfl (by decide +kernel) ⟨by decide, by decide⟩, C.2.2.2.2.1 _ im_M_copy, C.2.2.2.2.1 _ se_M_copy⟩ H.1 rfl rfl rfl (Nat.le_of_ble_eq_true rfl) d_M_atom_139 ⟨by decide, by decide⟩ ?_
            intro v_139 s_139 M_139 hp_139
            obtain ⟨rfl, rfl, ho_139, H_139⟩ := hp_139
            have hz_139 : zoutR M M_139 m (m + 15) := zoutR_tr zoutR_rf ho_139
            show Z _ _ _ _ _ _ _ _ 142 _ []
            refine z_iload_n C d_M_atom_142 rfl rfl ?_
            have ea : (m_atom cs fs nb i0) = ((dgs cs 32 (i0 + 1)), labF fs (wth cs (dgs cs 32 (i0 + 1) - (i0 + 1)) 0 (i0 + 1))) := by
              unfold m_atom
              rw [if_neg hd, if_neg (by omega), if_pos (by omega)]
            have elb : (wth cs (dgs cs 32 (i0 + 1) - (i0 + 1)) 0 (i0 + 1)) = wth cs (dgs cs 32 (i0 + 1) - (i0 + 1)) 0 (i0 + 1) := rfl
            obtain ⟨n9, en9⟩ : ∃ n9, wth cs (dgs cs 32 (i0 + 1) - (i0 + 1)) 0 (i0 + 1) = n9 + 1 := ⟨wth cs (dgs cs 32 (i0 + 1) - (i0 + 1)) 0 (i0 + 1) - 1, by omega⟩
            have hn9 : n9 < fs.length := by omega
            have el : labF fs (wth cs (dgs cs 32 (i0 + 1) - (i0 + 1)) 0 (i0 + 1)) = .inr fs[n9] := by
              unfold labF; rw [en9, if_neg (by omega), Nat.add_sub_cancel, List.getElem?_eq_getElem hn9]
            have hr9 : R (n9 + 1) = fs[n9] := hfs n9 _ (List.getElem?_eq_getElem hn9)
            rw [hR _ (by omega)] at hr9
            refine z_iret C ⟨by rw [ea], rfl, hz_139, xlev, xtr, (cpF xF ((wth cs (dgs cs 32 (i0 + 1) - (i0 + 1)) 0 (i0 + 1))) 71 13), (cpF xG ((wth cs (dgs cs 32 (i0 + 1) - (i0 + 1)) 0 (i0 + 1))) 71 13), xP, xQ, xmm, xsl, xkd, xhs, xht, xsg, xdv, H_139, fun q hq => ⟨by rw [pg_cp, if_neg (by omega)], by rw [pg_cp, if_neg (by omega)]⟩, hkd, by omega, ?_⟩ d_M_atom_143
            rw [ea]
            simp only
            rw [el]
            exact ⟨htr, rfl, relR_u hR (fun q hq => ⟨by rw [pg_cp, if_neg hq.2], by rw [pg_cp, if_neg hq.2]⟩) (by rw [pg_cp, if_pos rfl, elb, en9, ← hr9]) (by rw [pg_cp, if_pos rfl, elb, en9, ← hr9])⟩
          · have c_122 : xlab < (wth cs (dgs cs 32 (i0 + 1) - (i0 + 1)) 0 (i0 + 1)) := Nat.not_le.mp (fun q => c_122 ((nI_leI (a := (wth cs (dgs cs 32 (i0 + 1) - (i0 + 1)) 0 (i0 + 1))) (b := xlab) (by omega) (by omega)).mpr q))
            refine z_aload_n C d_M_atom_125 rfl rfl ?_
            refine z_bipush (v := -4) C d_M_atom_126 (by decide) ?_
            refine z_put C in_M ty_M tok_M nm_M H.1 rfl 5 (by decide) fl_M_119 rfl rfl rfl (rfl) (rfl) (Nat.le_of_ble_eq_true rfl) d_M_atom_128 ?_
            show Z _ _ _ _ _ _ _ (zU M m (.inr (10, [.ref (m + 1), .int (nI xlen), .int (nI xlab), .int xbad, .int (nI xlev), .int (-4), .int (nI xwa), .int (nI xpl), .int (nI xfo), .ref (m + 2), .ref (m + 3), .ref (m + 4), .ref (m + 5), .ref (m + 6), .ref (m + 7), .ref (m + 8), .ref (m + 9), .ref (m + 10), .ref (m + 11), .ref (m + 12), .ref (m + 13), .ref (m + 14)]))) _ _ _
            refine z_goto (tgt := 142) C d_M_atom_131 (by decide) ?_
            refine z_iload_n C d_M_atom_142 rfl rfl ?_
            have ea : (m_atom cs fs nb i0) = ((dgs cs 32 (i0 + 1)), labF fs (wth cs (dgs cs 32 (i0 + 1) - (i0 + 1)) 0 (i0 + 1))) := by
              unfold m_atom
              rw [if_neg hd, if_neg (by omega), if_pos (by omega)]
            have elb : (wth cs (dgs cs 32 (i0 + 1) - (i0 + 1)) 0 (i0 + 1)) = wth cs (dgs cs 32 (i0 + 1) - (i0 + 1)) 0 (i0 + 1) := rfl
            have el : labF fs (wth cs (dgs cs 32 (i0 + 1) - (i0 + 1)) 0 (i0 + 1)) = .inl (-4) := by
              unfold labF
              by_cases z : wth cs (dgs cs 32 (i0 + 1) - (i0 + 1)) 0 (i0 + 1) = 0
              · rw [if_pos z]
              · rw [if_neg z, List.getElem?_eq_none (by omega)]
            refine z_iret C ⟨by rw [ea], rfl, (zoutR_tr zoutR_rf (zo_u (by omega) (by omega))), xlev, -4, xF, xG, xP, xQ, xmm, xsl, xkd, xhs, xht, xsg, xdv, (mw_o H xlen xlab xbad xlev (-4) xwa xpl xfo), fun q hq => ⟨rfl, rfl⟩, hkd, by omega, ?_⟩ d_M_atom_143
            rw [ea]
            simp only
            rw [el]
            exact ⟨rfl, by decide⟩
    · have c_39 : (xln i0) = 120 := (nI_eq (a := (xln i0)) (b := 120) (by omega) (by omega)).mp c_39
      refine z_aload_n C d_M_atom_42 rfl rfl ?_
      refine z_bipush (v := nI 71) C d_M_atom_43 (by decide) ?_
      refine z_iconst (v := fI 0) C d_M_atom_45 (by decide) ?_
      refine z_callV (rest := []) (n := 2) (As := [.int (nI 71), .int (fI 0)]) C (m_constant E X.2.1 sz _ H 71 (by decide) 0) ⟨z_cb C k_M_constant ml_M_108 ii_M rfl rfl (by decide +kernel) ⟨by decide, by decide⟩, C.2.2.2.2.1 _ im_M_constant, C.2.2.2.2.1 _ se_M_constant⟩ H.1 rfl rfl rfl (Nat.le_of_ble_eq_true rfl) d_M_atom_46 ⟨by decide, by decide⟩ ?_
      intro v_46 s_46 M_46 hp_46
      obtain ⟨rfl, rfl, ho_46, H_46⟩ := hp_46
      have hz_46 : zoutR M M_46 m (m + 15) := zoutR_tr zoutR_rf ho_46
      show Z _ _ _ _ _ _ _ _ 49 _ []
      refine z_aload_n C d_M_atom_49 rfl rfl ?_
      refine z_get C in_M H_46.1 rfl 11 (by decide) fl_M_23 rfl rfl d_M_atom_50 ?_
      refine z_sipush (v := nI 924) C d_M_atom_53 (by decide) ?_
      refine z_iconst (v := fI 1) C d_M_atom_56 (by decide) ?_
      refine z_iast C H_46.2.2.2.2.1 0 rfl 924 (rfl) (by omega) (by omega) d_M_atom_57 ?_
      refine z_world (M' := zU M_46 (m + 4) (.inl (E.2.1 0, 1014, .inl (fun z_ => fI ((updF (coF xF 71 0 13) 924 1) z_))))) (congrArg (fun e => zU M_46 (m + 4) (.inl (E.2.1 0, 1014, .inl e))) fI_upd) ?_
      refine z_iload_n C d_M_atom_58 rfl rfl ?_
      refine z_iconst (v := nI 1) C d_M_atom_59 (by decide) ?_
      refine z_iadd C d_M_atom_60 ?_
      refine z_top (y := nI (i0 + 1)) (nI_add _ _) ?_
      have ea : (m_atom cs fs nb i0) = (i0 + 1, .inr (mono 1 1, ps_C 1)) := by unfold m_atom; rw [if_neg hd, if_pos (by omega)]
      refine z_iret C ⟨by rw [ea], rfl, (zoutR_tr hz_46 (zo_u (by omega) (by omega))), xlev, xtr, (updF (coF xF 71 0 13) 924 1), (coF xG 71 1 13), xP, xQ, xmm, xsl, xkd, xhs, xht, xsg, xdv, (mw_a4 H_46 (updF (coF xF 71 0 13) 924 1)), fun q hq => ⟨by rw [pg_x, if_neg (by omega)], by rw [pg_co, if_neg (by omega)]⟩, hkd, by omega, ?_⟩ d_M_atom_61
      rw [ea]
      exact ⟨htr, rfl, relR_u hR (fun q hq => ⟨by rw [pg_x, if_neg hq.2], by rw [pg_co, if_neg hq.2]⟩) (by rw [pg_x, if_pos rfl]) (by rw [pg_co, if_pos rfl])⟩
  · have c_15 : i0 < (dgs cs 32 i0) := Nat.not_le.mp (fun q => c_15 ((nI_leI (a := (dgs cs 32 i0)) (b := i0) (by omega) (by omega)).mpr q))
    have hd : isD (cs.getD i0 0) := dgs_dig cs 32 i0 i0 (Nat.le_refl _) c_15
    have hw5 : wth cs (dgs cs 32 i0 - i0) 0 i0 ≤ 99999 := by omega
    refine z_aload_n C d_M_atom_18 rfl rfl ?_
    refine z_bipush (v := nI 71) C d_M_atom_19 (by decide) ?_
    refine z_aload_n C d_M_atom_21 rfl rfl ?_
    refine z_iload_n C d_M_atom_22 rfl rfl ?_
    refine z_iload_n C d_M_atom_23 rfl rfl ?_
    refine z_callV (rest := [.int (nI 71), .ref m]) (n := 2) (As := [.int (nI i0), .int (nI (dgs cs 32 i0))]) C (m_worth E X.2.1 sz _ H cs hlen h32 hln hch i0 (dgs cs 32 i0) (by omega) (by omega) (fun i h1 h2 => dgs_dig cs 32 i0 i h1 h2)) ⟨z_cb C k_M_worth ml_M_164 ii_M rfl rfl (by decide +kernel) ⟨by decide, by decide⟩, C.2.2.2.2.1 _ im_M_worth, C.2.2.2.2.1 _ se_M_worth⟩ H.1 rfl rfl rfl (Nat.le_of_ble_eq_true rfl) d_M_atom_24 ⟨by decide, by decide⟩ ?_
    intro v_24 s_24 M_24 hp_24
    obtain ⟨rfl, rfl, rfl⟩ := hp_24
    show Z _ _ _ _ _ _ _ _ 27 _ [.int (nI (wth cs (dgs cs 32 i0 - i0) 0 i0)), .int (nI 71), .ref m]
    refine z_sipush (v := nI 10007) C d_M_atom_27 (by decide) ?_
    refine z_irem C d_M_atom_30 (by decide) ?_
    refine z_top (y := nI ((wth cs (dgs cs 32 i0 - i0) 0 i0) % 10007)) (pk_rem (by omega) (by decide) (by decide)) ?_
    refine z_callV (rest := []) (n := 2) (As := [.int (nI 71), .int (nI ((wth cs (dgs cs 32 i0 - i0) 0 i0) % 10007))]) C (m_constant E X.2.1 sz _ H 71 (by decide) (Fin.ofNat 10007 (wth cs (dgs cs 32 i0 - i0) 0 i0))) ⟨z_cb C k_M_constant ml_M_108 ii_M rfl rfl (by decide +kernel) ⟨by decide, by decide⟩, C.2.2.2.2.1 _ im_M_constant, C.2.2.2.2.1 _ se_M_constant⟩ H.1 rfl rfl rfl (Nat.le_of_ble_eq_true rfl) d_M_atom_31 ⟨by decide, by decide⟩ ?_
    intro v_31 s_31 M_31 hp_31
    obtain ⟨rfl, rfl, ho_31, H_31⟩ := hp_31
    have hz_31 : zoutR M M_31 m (m + 15) := zoutR_tr zoutR_rf ho_31
    show Z _ _ _ _ _ _ _ _ 34 _ []
    refine z_iload_n C d_M_atom_34 rfl rfl ?_
    have ea : (m_atom cs fs nb i0) = (dgs cs 32 i0, .inr (ps_C (Fin.ofNat 10007 (wth cs (dgs cs 32 i0 - i0) 0 i0)), ps_C 1)) := by unfold m_atom; rw [if_pos hd]
    refine z_iret C ⟨by rw [ea], rfl, hz_31, xlev, xtr, (coF xF 71 (Fin.ofNat 10007 (wth cs (dgs cs 32 i0 - i0) 0 i0)) 13), (coF xG 71 1 13), xP, xQ, xmm, xsl, xkd, xhs, xht, xsg, xdv, H_31, fun q hq => ⟨by rw [pg_co, if_neg (by omega)], by rw [pg_co, if_neg (by omega)]⟩, hkd, by omega, ?_⟩ d_M_atom_35
    rw [ea]
    exact ⟨htr, rfl, relR_u hR (fun q hq => ⟨by rw [pg_co, if_neg hq.2], by rw [pg_co, if_neg hq.2]⟩) (by rw [pg_co, if_pos rfl]) (by rw [pg_co, if_pos rfl])⟩
