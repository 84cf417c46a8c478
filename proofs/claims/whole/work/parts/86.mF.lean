def okR (F G : Nat → FF) (q : Nat) : Prop := isform (pg F q) (pg G q)
theorem okR_F {F G : Nat → FF} {q : Nat} (h : okR F G q) : okF (pg F q, pg G q) := by
  refine ⟨h, ?_⟩
  rintro (⟨i, hi, e⟩ | ⟨i, hi, e⟩)
  · exact e (pg_z i (by omega))
  · exact e (pg_z i (by omega))
theorem mul_25 {A B : PS} (hA : ∀ i, 13 ≤ i → A i = 0) (hB : ∀ i, 13 ≤ i → B i = 0) : ∀ i, 25 ≤ i → ps_mul A B i = 0 := fun i hi => (ps_top (m := 12) (g := B) (fun j hj => hB j (by omega)) (n := 12) (f := A) (fun j hj => hA j (by omega))).2 i (by omega)
theorem tr_prd1 {P : Nat → FF} {A B : PS} (hA : ∀ i, 13 ≤ i → A i = 0) (hB : ∀ i, 13 ≤ i → B i = 0) : ps_tr (prd (blF P 40) 1 A B) 40 = ps_mul A B := by
  funext i
  unfold ps_tr prd blF
  by_cases h : i < 40
  · rw [if_pos h, if_pos h]; grind
  · rw [if_neg h, mul_25 hA hB i (by omega)]
theorem tr_prd2 {P : Nat → FF} {A B A' B' : PS} {f : FF} (hA : ∀ i, 13 ≤ i → A i = 0) (hB : ∀ i, 13 ≤ i → B i = 0) (hA' : ∀ i, 13 ≤ i → A' i = 0) (hB' : ∀ i, 13 ≤ i → B' i = 0) : ps_tr (prd (prd (blF P 40) 1 A B) f A' B') 40 = ps_add (ps_mul A B) (ps_mul (ps_C f) (ps_mul A' B')) := by
  funext i
  have e : ps_mul (ps_C f) (ps_mul A' B') i = f * ps_mul A' B' i := ps_mC
  unfold ps_tr prd blF
  simp only [ps_add]
  rw [e]
  by_cases h : i < 40
  · rw [if_pos h, if_pos h]; grind
  · rw [if_neg h, mul_25 hA hB i (by omega), mul_25 hA' hB' i (by omega)]; grind
theorem add_25 {A B : PS} (hA : ∀ i, 25 ≤ i → A i = 0) (hB : ∀ i, 25 ≤ i → B i = 0) (f : FF) : ∀ i, 25 ≤ i → ps_add A (ps_mul (ps_C f) B) i = 0 := by
  intro i hi
  have e : ps_mul (ps_C f) B i = f * B i := ps_mC
  simp only [ps_add]
  rw [e, hA i hi, hB i hi]; grind
theorem okR_ne {F G : Nat → FF} {q : Nat} (h : okR F G q) : ∃ i, pg G q i ≠ 0 := isf_ne h
theorem okR_pol {F G : Nat → FF} {q : Nat} : pol (pg F q) ∧ pol (pg G q) := ⟨⟨13, pg_z⟩, ⟨13, pg_z⟩⟩
set_option maxHeartbeats 4000000 in
/-- add -/
theorem m_add (E : zE) (l : Launch) (sz : Nat) (M : zM) {m : Nat} {xln : Nat → Nat} {xlen : Nat} {xlab : Nat} {xbad : Int32} {xlev : Nat} {xtr : Int32} {xwa : Nat} {xpl : Nat} {xfo : Nat} {xsf : Nat → Nat} {xbf : Nat → Nat} {xF : Nat → FF} {xG : Nat → FF} {xP : Nat → FF} {xQ : Nat → FF} {xmm : Nat → FF} {xsl : Nat → Nat} {xkd : Nat → Nat} {xhs : Nat → Nat} {xht : Nat → Nat} {xsg : Nat → Nat} {xdv : Nat → Nat} (H : mw E M m xln xlen xlab xbad xlev xtr xwa xpl xfo xsf xbf xF xG xP xQ xmm xsl xkd xhs xht xsg xdv) (a b : Nat) (f : FF) (t : Nat) (ha : a < 78) (hb : b < 78) (ht : t < 78) (htr : xtr = 0) (oka : okR xF xG a) (okb : okR xF xG b) : zMet E l y_M_add c_M_add 5 none { frames := 4, cells := 0, slots := 0, locals := 103 } 0 0 [.ref m, .int (nI a), .int (nI b), .int (fI f), .int (nI t)] sz M (oP E M sz m xln xlen xlab xbad xlev xtr xwa xpl xfo xsf xbf xF xG xP xQ xmm xsl xkd xhs xht xsg xdv (fun q => q ≠ t) t (oAdd f (pg xF a, pg xG a) (pg xF b, pg xG b))) := by
  refine zMet.ofZ (by decide) (Nat.le_of_ble_eq_true rfl) ?_
  intro X hl hini C
  show Z X E 5 _ 0 0 sz M 0 [(0, .ref m), (1, .int (nI a)), (2, .int (nI b)), (3, .int (fI f)), (4, .int (nI t))] []
  refine z_aload_n C d_M_add_0 rfl rfl ?_
  refine z_get C in_M H.1 rfl 5 (by decide) fl_M_119 rfl rfl d_M_add_1 ?_
  refine z_if_eq (tgt := 8) C d_M_add_4 (by decide) (fun _ => ?_) (fun c_4 => absurd (htr) c_4)
  refine z_aload_n C d_M_add_8 rfl rfl ?_
  refine z_callV (rest := []) (n := 0) (As := []) C (m_blank E X.2.1 sz _ H) ⟨z_cb C k_M_blank ml_M_122 ii_M rfl rfl (by decide +kernel) ⟨by decide, by decide⟩, C.2.2.2.2.1 _ im_M_blank, C.2.2.2.2.1 _ se_M_blank⟩ H.1 rfl rfl rfl (Nat.le_of_ble_eq_true rfl) d_M_add_9 ⟨by decide, by decide⟩ ?_
  intro v_9 s_9 M_9 hp_9
  obtain ⟨rfl, rfl, ho_9, H_9⟩ := hp_9
  have hz_9 : zoutR M M_9 m (m + 15) := zoutR_tr zoutR_rf ho_9
  show Z _ _ _ _ _ _ _ _ 12 _ []
  refine z_aload_n C d_M_add_12 rfl rfl ?_
  refine z_iload_n C d_M_add_13 rfl rfl ?_
  refine z_iconst (v := nI 0) C d_M_add_14 (by decide) ?_
  refine z_iload_n C d_M_add_15 rfl rfl ?_
  refine z_iconst (v := nI 1) C d_M_add_16 (by decide) ?_
  refine z_iconst (v := fI 1) C d_M_add_17 (by decide) ?_
  refine z_iconst (v := nI 0) C d_M_add_18 (by decide) ?_
  refine z_callV (rest := []) (n := 6) (As := [.int (nI a), .int (nI 0), .int (nI b), .int (nI 1), .int (fI 1), .int (nI 0)]) C (m_productP E X.2.1 sz _ H_9 a 0 b 1 1 (by omega) (by omega) (by decide) (by decide)) ⟨z_cb C k_M_product ml_M_125 ii_M rfl rfl (by decide +kernel) ⟨by decide, by decide⟩, C.2.2.2.2.1 _ im_M_product, C.2.2.2.2.1 _ se_M_product⟩ H_9.1 rfl rfl rfl (Nat.le_of_ble_eq_true rfl) d_M_add_19 ⟨by decide, by decide⟩ ?_
  intro v_19 s_19 M_19 hp_19
  obtain ⟨rfl, rfl, ho_19, H_19⟩ := hp_19
  have hz_19 : zoutR M M_19 m (m + 15) := zoutR_tr hz_9 ho_19
  show Z _ _ _ _ _ _ _ _ 22 _ []
  refine z_aload_n C d_M_add_22 rfl rfl ?_
  refine z_iload_n C d_M_add_23 rfl rfl ?_
  refine z_iconst (v := nI 0) C d_M_add_24 (by decide) ?_
  refine z_iload_n C d_M_add_25 rfl rfl ?_
  refine z_iconst (v := nI 1) C d_M_add_26 (by decide) ?_
  refine z_iload_n C d_M_add_27 rfl rfl ?_
  refine z_iconst (v := nI 0) C d_M_add_28 (by decide) ?_
  refine z_callV (rest := []) (n := 6) (As := [.int (nI b), .int (nI 0), .int (nI a), .int (nI 1), .int (fI f), .int (nI 0)]) C (m_productP E X.2.1 sz _ H_19 b 0 a 1 f (by omega) (by omega) (by decide) (by decide)) ⟨z_cb C k_M_product ml_M_125 ii_M rfl rfl (by decide +kernel) ⟨by decide, by decide⟩, C.2.2.2.2.1 _ im_M_product, C.2.2.2.2.1 _ se_M_product⟩ H_19.1 rfl rfl rfl (Nat.le_of_ble_eq_true rfl) d_M_add_29 ⟨by decide, by decide⟩ ?_
  intro v_29 s_29 M_29 hp_29
  obtain ⟨rfl, rfl, ho_29, H_29⟩ := hp_29
  have hz_29 : zoutR M M_29 m (m + 15) := zoutR_tr hz_19 ho_29
  show Z _ _ _ _ _ _ _ _ 32 _ []
  refine z_aload_n C d_M_add_32 rfl rfl ?_
  refine z_iload_n C d_M_add_33 rfl rfl ?_
  refine z_iconst (v := nI 1) C d_M_add_34 (by decide) ?_
  refine z_iload_n C d_M_add_35 rfl rfl ?_
  refine z_iconst (v := nI 1) C d_M_add_36 (by decide) ?_
  refine z_iconst (v := fI 1) C d_M_add_37 (by decide) ?_
  refine z_iconst (v := nI 1) C d_M_add_38 (by decide) ?_
  refine z_callV (rest := []) (n := 6) (As := [.int (nI a), .int (nI 1), .int (nI b), .int (nI 1), .int (fI 1), .int (nI 1)]) C (m_productQ E X.2.1 sz _ H_29 a 1 b 1 1 (by omega) (by omega) (by decide) (by decide)) ⟨z_cb C k_M_product ml_M_125 ii_M rfl rfl (by decide +kernel) ⟨by decide, by decide⟩, C.2.2.2.2.1 _ im_M_product, C.2.2.2.2.1 _ se_M_product⟩ H_29.1 rfl rfl rfl (Nat.le_of_ble_eq_true rfl) d_M_add_39 ⟨by decide, by decide⟩ ?_
  intro v_39 s_39 M_39 hp_39
  obtain ⟨rfl, rfl, ho_39, H_39⟩ := hp_39
  have hz_39 : zoutR M M_39 m (m + 15) := zoutR_tr hz_29 ho_39
  show Z _ _ _ _ _ _ _ _ 42 _ []
  refine z_aload_n C d_M_add_42 rfl rfl ?_
  refine z_iload C d_M_add_43 rfl ?_
  have eN_ : ps_tr (prd (prd (blF xP 40) 1 (pg xF a) (pg xG b)) f (pg xF b) (pg xG a)) 40 = ps_add (ps_mul (pg xF a) (pg xG b)) (ps_mul (ps_C f) (ps_mul (pg xF b) (pg xG a))) := tr_prd2 pg_z pg_z pg_z pg_z
  have eD_ : ps_tr (prd (blF xQ 40) 1 (pg xG a) (pg xG b)) 40 = ps_mul (pg xG a) (pg xG b) := tr_prd1 pg_z pg_z
  refine z_callV (rest := []) (n := 1) (As := [.int (nI t)]) C (m_form E X.2.1 sz _ H_39 t (by omega) htr (fun i hi => by show ps_tr (prd (prd (blF xP 40) 1 (pg xF a) (pg xG b)) f (pg xF b) (pg xG a)) 40 i = 0; rw [eN_]; exact add_25 (mul_25 pg_z pg_z) (mul_25 pg_z pg_z) f i hi) (fun i hi => by show ps_tr (prd (blF xQ 40) 1 (pg xG a) (pg xG b)) 40 i = 0; rw [eD_]; exact mul_25 pg_z pg_z i hi) (by show ∃ i, ps_tr (prd (blF xQ 40) 1 (pg xG a) (pg xG b)) 40 i ≠ 0; rw [eD_]; exact mul_ne ⟨13, pg_z⟩ ⟨13, pg_z⟩ (okR_ne oka) (okR_ne okb))) ⟨z_cb C k_M_form ml_M_129 ii_M rfl rfl (by decide +kernel) ⟨by decide, by decide⟩, C.2.2.2.2.1 _ im_M_form, C.2.2.2.2.1 _ se_M_form⟩ H_39.1 rfl rfl rfl (Nat.le_of_ble_eq_true rfl) d_M_add_45 ⟨by decide, by decide⟩ ?_
  intro v_45 s_45 M_45 hp_45
  obtain ⟨rfl, rfl, ho_45, tr_, F_, G_, P_, Q_, mm_, sl_, H_45, hR_⟩ := hp_45
  have hR : oR (fun q => q ≠ t) xF xG F_ G_ tr_ t (setl (ps_tr (prd (prd (blF xP 40) 1 (pg xF a) (pg xG b)) f (pg xF b) (pg xG a)) 40) (ps_tr (prd (blF xQ 40) 1 (pg xG a) (pg xG b)) 40)) := hR_
  rw [eN_, eD_] at hR
  show Z _ _ _ _ _ _ _ _ 48 _ []
  exact z_vret C ⟨rfl, rfl, (zoutR_tr hz_39 ho_45), tr_, F_, G_, P_, Q_, mm_, sl_, H_45, hR⟩ d_M_add_48
set_option maxHeartbeats 4000000 in
/-- times -/
theorem m_timesM (E : zE) (l : Launch) (sz : Nat) (M : zM) {m : Nat} {xln : Nat → Nat} {xlen : Nat} {xlab : Nat} {xbad : Int32} {xlev : Nat} {xtr : Int32} {xwa : Nat} {xpl : Nat} {xfo : Nat} {xsf : Nat → Nat} {xbf : Nat → Nat} {xF : Nat → FF} {xG : Nat → FF} {xP : Nat → FF} {xQ : Nat → FF} {xmm : Nat → FF} {xsl : Nat → Nat} {xkd : Nat → Nat} {xhs : Nat → Nat} {xht : Nat → Nat} {xsg : Nat → Nat} {xdv : Nat → Nat} (H : mw E M m xln xlen xlab xbad xlev xtr xwa xpl xfo xsf xbf xF xG xP xQ xmm xsl xkd xhs xht xsg xdv) (a b t : Nat) (ha : a < 78) (hb : b < 78) (ht : t < 78) (htr : xtr = 0) (oka : okR xF xG a) (okb : okR xF xG b) : zMet E l y_M_times c_M_times 5 none { frames := 4, cells := 0, slots := 0, locals := 103 } 0 0 [.ref m, .int (nI a), .int (nI b), .int (nI 0), .int (nI t)] sz M (oP E M sz m xln xlen xlab xbad xlev xtr xwa xpl xfo xsf xbf xF xG xP xQ xmm xsl xkd xhs xht xsg xdv (fun q => q ≠ t) t (oMul (pg xF a, pg xG a) (pg xF b, pg xG b))) := by
  refine zMet.ofZ (by decide) (Nat.le_of_ble_eq_true rfl) ?_
  intro X hl hini C
  show Z X E 5 _ 0 0 sz M 0 [(0, .ref m), (1, .int (nI a)), (2, .int (nI b)), (3, .int (nI 0)), (4, .int (nI t))] []
  refine z_aload_n C d_M_times_0 rfl rfl ?_
  refine z_get C in_M H.1 rfl 5 (by decide) fl_M_119 rfl rfl d_M_times_1 ?_
  refine z_if_eq (tgt := 8) C d_M_times_4 (by decide) (fun _ => ?_) (fun c_4 => absurd (htr) c_4)
  refine z_iload_n C d_M_times_8 rfl rfl ?_
  refine z_if_eq (tgt := 28) C d_M_times_9 (by decide) (fun _ => ?_) (fun c_9 => absurd (rfl) c_9)
  refine z_aload_n C d_M_times_28 rfl rfl ?_
  refine z_callV (rest := []) (n := 0) (As := []) C (m_blank E X.2.1 sz _ H) ⟨z_cb C k_M_blank ml_M_122 ii_M rfl rfl (by decide +kernel) ⟨by decide, by decide⟩, C.2.2.2.2.1 _ im_M_blank, C.2.2.2.2.1 _ se_M_blank⟩ H.1 rfl rfl rfl (Nat.le_of_ble_eq_true rfl) d_M_times_29 ⟨by decide, by decide⟩ ?_
  intro v_29 s_29 M_29 hp_29
  obtain ⟨rfl, rfl, ho_29, H_29⟩ := hp_29
  have hz_29 : zoutR M M_29 m (m + 15) := zoutR_tr zoutR_rf ho_29
  show Z _ _ _ _ _ _ _ _ 32 _ []
  refine z_aload_n C d_M_times_32 rfl rfl ?_
  refine z_iload_n C d_M_times_33 rfl rfl ?_
  refine z_iconst (v := nI 0) C d_M_times_34 (by decide) ?_
  refine z_iload_n C d_M_times_35 rfl rfl ?_
  refine z_iload_n C d_M_times_36 rfl rfl ?_
  refine z_iconst (v := fI 1) C d_M_times_37 (by decide) ?_
  refine z_iconst (v := nI 0) C d_M_times_38 (by decide) ?_
  refine z_callV (rest := []) (n := 6) (As := [.int (nI a), .int (nI 0), .int (nI b), .int (nI 0), .int (fI 1), .int (nI 0)]) C (m_productP E X.2.1 sz _ H_29 a 0 b 0 1 (by omega) (by omega) (by decide) (by decide)) ⟨z_cb C k_M_product ml_M_125 ii_M rfl rfl (by decide +kernel) ⟨by decide, by decide⟩, C.2.2.2.2.1 _ im_M_product, C.2.2.2.2.1 _ se_M_product⟩ H_29.1 rfl rfl rfl (Nat.le_of_ble_eq_true rfl) d_M_times_39 ⟨by decide, by decide⟩ ?_
  intro v_39 s_39 M_39 hp_39
  obtain ⟨rfl, rfl, ho_39, H_39⟩ := hp_39
  have hz_39 : zoutR M M_39 m (m + 15) := zoutR_tr hz_29 ho_39
  show Z _ _ _ _ _ _ _ _ 42 _ []
  refine z_aload_n C d_M_times_42 rfl rfl ?_
  refine z_iload_n C d_M_times_43 rfl rfl ?_
  refine z_iconst (v := nI 1) C d_M_times_44 (by decide) ?_
  refine z_iload_n C d_M_times_45 rfl rfl ?_
  refine z_iload_n C d_M_times_46 rfl rfl ?_
  refine z_if_ne (tgt := 54) C d_M_times_47 (by decide) (fun c_47 => absurd c_47 (fun q => q rfl)) (fun _ => ?_)
  refine z_iconst (v := nI 1) C d_M_times_50 (by decide) ?_
  refine z_goto (tgt := 55) C d_M_times_51 (by decide) ?_
  refine z_iconst (v := fI 1) C d_M_times_55 (by decide) ?_
  refine z_iconst (v := nI 1) C d_M_times_56 (by decide) ?_
  refine z_callV (rest := []) (n := 6) (As := [.int (nI a), .int (nI 1), .int (nI b), .int (nI 1), .int (fI 1), .int (nI 1)]) C (m_productQ E X.2.1 sz _ H_39 a 1 b 1 1 (by omega) (by omega) (by decide) (by decide)) ⟨z_cb C k_M_product ml_M_125 ii_M rfl rfl (by decide +kernel) ⟨by decide, by decide⟩, C.2.2.2.2.1 _ im_M_product, C.2.2.2.2.1 _ se_M_product⟩ H_39.1 rfl rfl rfl (Nat.le_of_ble_eq_true rfl) d_M_times_57 ⟨by decide, by decide⟩ ?_
  intro v_57 s_57 M_57 hp_57
  obtain ⟨rfl, rfl, ho_57, H_57⟩ := hp_57
  have hz_57 : zoutR M M_57 m (m + 15) := zoutR_tr hz_39 ho_57
  show Z _ _ _ _ _ _ _ _ 60 _ []
  refine z_aload_n C d_M_times_60 rfl rfl ?_
  refine z_iload C d_M_times_61 rfl ?_
  have eN_ : ps_tr (prd (blF xP 40) 1 (pg xF a) (pg xF b)) 40 = ps_mul (pg xF a) (pg xF b) := tr_prd1 pg_z pg_z
  have eD_ : ps_tr (prd (blF xQ 40) 1 (pg xG a) (pg xG b)) 40 = ps_mul (pg xG a) (pg xG b) := tr_prd1 pg_z pg_z
  refine z_callV (rest := []) (n := 1) (As := [.int (nI t)]) C (m_form E X.2.1 sz _ H_57 t (by omega) htr (fun i hi => by show ps_tr (prd (blF xP 40) 1 (pg xF a) (pg xF b)) 40 i = 0; rw [eN_]; exact mul_25 pg_z pg_z i hi) (fun i hi => by show ps_tr (prd (blF xQ 40) 1 (pg xG a) (pg xG b)) 40 i = 0; rw [eD_]; exact mul_25 pg_z pg_z i hi) (by show ∃ i, ps_tr (prd (blF xQ 40) 1 (pg xG a) (pg xG b)) 40 i ≠ 0; rw [eD_]; exact mul_ne ⟨13, pg_z⟩ ⟨13, pg_z⟩ (okR_ne oka) (okR_ne okb))) ⟨z_cb C k_M_form ml_M_129 ii_M rfl rfl (by decide +kernel) ⟨by decide, by decide⟩, C.2.2.2.2.1 _ im_M_form, C.2.2.2.2.1 _ se_M_form⟩ H_57.1 rfl rfl rfl (Nat.le_of_ble_eq_true rfl) d_M_times_63 ⟨by decide, by decide⟩ ?_
  intro v_63 s_63 M_63 hp_63
  obtain ⟨rfl, rfl, ho_63, tr_, F_, G_, P_, Q_, mm_, sl_, H_63, hR_⟩ := hp_63
  have hR : oR (fun q => q ≠ t) xF xG F_ G_ tr_ t (setl (ps_tr (prd (blF xP 40) 1 (pg xF a) (pg xF b)) 40) (ps_tr (prd (blF xQ 40) 1 (pg xG a) (pg xG b)) 40)) := hR_
  rw [eN_, eD_] at hR
  show Z _ _ _ _ _ _ _ _ 66 _ []
  exact z_vret C ⟨rfl, rfl, (zoutR_tr hz_57 ho_63), tr_, F_, G_, P_, Q_, mm_, sl_, H_63, hR⟩ d_M_times_66
set_option maxHeartbeats 4000000 in
/-- times -/
theorem m_timesD (E : zE) (l : Launch) (sz : Nat) (M : zM) {m : Nat} {xln : Nat → Nat} {xlen : Nat} {xlab : Nat} {xbad : Int32} {xlev : Nat} {xtr : Int32} {xwa : Nat} {xpl : Nat} {xfo : Nat} {xsf : Nat → Nat} {xbf : Nat → Nat} {xF : Nat → FF} {xG : Nat → FF} {xP : Nat → FF} {xQ : Nat → FF} {xmm : Nat → FF} {xsl : Nat → Nat} {xkd : Nat → Nat} {xhs : Nat → Nat} {xht : Nat → Nat} {xsg : Nat → Nat} {xdv : Nat → Nat} (H : mw E M m xln xlen xlab xbad xlev xtr xwa xpl xfo xsf xbf xF xG xP xQ xmm xsl xkd xhs xht xsg xdv) (a b t : Nat) (ha : a < 78) (hb : b < 78) (ht : t < 78) (htr : xtr = 0) (oka : okR xF xG a) (okb : okR xF xG b) : zMet E l y_M_times c_M_times 5 none { frames := 4, cells := 0, slots := 0, locals := 103 } 0 0 [.ref m, .int (nI a), .int (nI b), .int (nI 1), .int (nI t)] sz M (oP E M sz m xln xlen xlab xbad xlev xtr xwa xpl xfo xsf xbf xF xG xP xQ xmm xsl xkd xhs xht xsg xdv (fun q => q ≠ t) t (oDiv (pg xF a, pg xG a) (pg xF b, pg xG b))) := by
  refine zMet.ofZ (by decide) (Nat.le_of_ble_eq_true rfl) ?_
  intro X hl hini C
  show Z X E 5 _ 0 0 sz M 0 [(0, .ref m), (1, .int (nI a)), (2, .int (nI b)), (3, .int (nI 1)), (4, .int (nI t))] []
  refine z_aload_n C d_M_times_0 rfl rfl ?_
  refine z_get C in_M H.1 rfl 5 (by decide) fl_M_119 rfl rfl d_M_times_1 ?_
  refine z_if_eq (tgt := 8) C d_M_times_4 (by decide) (fun _ => ?_) (fun c_4 => absurd (htr) c_4)
  refine z_iload_n C d_M_times_8 rfl rfl ?_
  refine z_if_eq (tgt := 28) C d_M_times_9 (by decide) (fun c_9 => absurd c_9 (by decide)) (fun _ => ?_)
  refine z_aload_n C d_M_times_12 rfl rfl ?_
  refine z_iload_n C d_M_times_13 rfl rfl ?_
  refine z_iconst (v := nI 0) C d_M_times_14 (by decide) ?_
  refine z_callV (rest := []) (n := 2) (As := [.int (nI b), .int (nI 0)]) C (m_top E X.2.1 sz _ H b 0 (by omega) (by decide)) ⟨z_cb C k_M_top ml_M_133 ii_M rfl rfl (by decide +kernel) ⟨by decide, by decide⟩, C.2.2.2.2.1 _ im_M_top, C.2.2.2.2.1 _ se_M_top⟩ H.1 rfl rfl rfl (Nat.le_of_ble_eq_true rfl) d_M_times_15 ⟨by decide, by decide⟩ ?_
  intro v_15 s_15 M_15 hp_15
  obtain ⟨k1, rfl, rfl, rfl, hk1⟩ := hp_15
  rw [sel_0 rfl] at hk1
  show Z _ _ _ _ _ _ _ _ 18 _ [.int (tI k1)]
  refine z_if_ge (tgt := 28) C d_M_times_18 (by decide) (fun c_18 => ?_) (fun c_18 => ?_)
  · have hk13 := isC_pg hk1
    have c_18 : 0 < k1 := (tI_ge0 (n := k1) (by omega)).mp c_18
    have hbn : ∃ i, pg xF b i ≠ 0 := ⟨k1 - 1, hk1.2 (k1 - 1) (by omega)⟩
    have hbz : ¬ ∀ i, pg xF b i = 0 := fun q => hbn.choose_spec (q _)
    refine z_aload_n C d_M_times_28 rfl rfl ?_
    refine z_callV (rest := []) (n := 0) (As := []) C (m_blank E X.2.1 sz _ H) ⟨z_cb C k_M_blank ml_M_122 ii_M rfl rfl (by decide +kernel) ⟨by decide, by decide⟩, C.2.2.2.2.1 _ im_M_blank, C.2.2.2.2.1 _ se_M_blank⟩ H.1 rfl rfl rfl (Nat.le_of_ble_eq_true rfl) d_M_times_29 ⟨by decide, by decide⟩ ?_
    intro v_29 s_29 M_29 hp_29
    obtain ⟨rfl, rfl, ho_29, H_29⟩ := hp_29
    have hz_29 : zoutR M M_29 m (m + 15) := zoutR_tr zoutR_rf ho_29
    show Z _ _ _ _ _ _ _ _ 32 _ []
    refine z_aload_n C d_M_times_32 rfl rfl ?_
    refine z_iload_n C d_M_times_33 rfl rfl ?_
    refine z_iconst (v := nI 0) C d_M_times_34 (by decide) ?_
    refine z_iload_n C d_M_times_35 rfl rfl ?_
    refine z_iload_n C d_M_times_36 rfl rfl ?_
    refine z_iconst (v := fI 1) C d_M_times_37 (by decide) ?_
    refine z_iconst (v := nI 0) C d_M_times_38 (by decide) ?_
    refine z_callV (rest := []) (n := 6) (As := [.int (nI a), .int (nI 0), .int (nI b), .int (nI 1), .int (fI 1), .int (nI 0)]) C (m_productP E X.2.1 sz _ H_29 a 0 b 1 1 (by omega) (by omega) (by decide) (by decide)) ⟨z_cb C k_M_product ml_M_125 ii_M rfl rfl (by decide +kernel) ⟨by decide, by decide⟩, C.2.2.2.2.1 _ im_M_product, C.2.2.2.2.1 _ se_M_product⟩ H_29.1 rfl rfl rfl (Nat.le_of_ble_eq_true rfl) d_M_times_39 ⟨by decide, by decide⟩ ?_
    intro v_39 s_39 M_39 hp_39
    obtain ⟨rfl, rfl, ho_39, H_39⟩ := hp_39
    have hz_39 : zoutR M M_39 m (m + 15) := zoutR_tr hz_29 ho_39
    show Z _ _ _ _ _ _ _ _ 42 _ []
    refine z_aload_n C d_M_times_42 rfl rfl ?_
    refine z_iload_n C d_M_times_43 rfl rfl ?_
    refine z_iconst (v := nI 1) C d_M_times_44 (by decide) ?_
    refine z_iload_n C d_M_times_45 rfl rfl ?_
    refine z_iload_n C d_M_times_46 rfl rfl ?_
    refine z_if_ne (tgt := 54) C d_M_times_47 (by decide) (fun _ => ?_) (fun c_47 => absurd c_47 (by decide))
    refine z_iconst (v := nI 0) C d_M_times_54 (by decide) ?_
    refine z_iconst (v := fI 1) C d_M_times_55 (by decide) ?_
    refine z_iconst (v := nI 1) C d_M_times_56 (by decide) ?_
    refine z_callV (rest := []) (n := 6) (As := [.int (nI a), .int (nI 1), .int (nI b), .int (nI 0), .int (fI 1), .int (nI 1)]) C (m_productQ E X.2.1 sz _ H_39 a 1 b 0 1 (by omega) (by omega) (by decide) (by decide)) ⟨z_cb C k_M_product ml_M_125 ii_M rfl rfl (by decide +kernel) ⟨by decide, by decide⟩, C.2.2.2.2.1 _ im_M_product, C.2.2.2.2.1 _ se_M_product⟩ H_39.1 rfl rfl rfl (Nat.le_of_ble_eq_true rfl) d_M_times_57 ⟨by decide, by decide⟩ ?_
    intro v_57 s_57 M_57 hp_57
    obtain ⟨rfl, rfl, ho_57, H_57⟩ := hp_57
    have hz_57 : zoutR M M_57 m (m + 15) := zoutR_tr hz_39 ho_57
    show Z _ _ _ _ _ _ _ _ 60 _ []
    refine z_aload_n C d_M_times_60 rfl rfl ?_
    refine z_iload C d_M_times_61 rfl ?_
    have eN_ : ps_tr (prd (blF xP 40) 1 (pg xF a) (pg xG b)) 40 = ps_mul (pg xF a) (pg xG b) := tr_prd1 pg_z pg_z
    have eD_ : ps_tr (prd (blF xQ 40) 1 (pg xG a) (pg xF b)) 40 = ps_mul (pg xG a) (pg xF b) := tr_prd1 pg_z pg_z
    refine z_callV (rest := []) (n := 1) (As := [.int (nI t)]) C (m_form E X.2.1 sz _ H_57 t (by omega) htr (fun i hi => by show ps_tr (prd (blF xP 40) 1 (pg xF a) (pg xG b)) 40 i = 0; rw [eN_]; exact mul_25 pg_z pg_z i hi) (fun i hi => by show ps_tr (prd (blF xQ 40) 1 (pg xG a) (pg xF b)) 40 i = 0; rw [eD_]; exact mul_25 pg_z pg_z i hi) (by show ∃ i, ps_tr (prd (blF xQ 40) 1 (pg xG a) (pg xF b)) 40 i ≠ 0; rw [eD_]; exact mul_ne ⟨13, pg_z⟩ ⟨13, pg_z⟩ (okR_ne oka) hbn)) ⟨z_cb C k_M_form ml_M_129 ii_M rfl rfl (by decide +kernel) ⟨by decide, by decide⟩, C.2.2.2.2.1 _ im_M_form, C.2.2.2.2.1 _ se_M_form⟩ H_57.1 rfl rfl rfl (Nat.le_of_ble_eq_true rfl) d_M_times_63 ⟨by decide, by decide⟩ ?_
    intro v_63 s_63 M_63 hp_63
    obtain ⟨rfl, rfl, ho_63, tr_, F_, G_, P_, Q_, mm_, sl_, H_63, hR_⟩ := hp_63
    have hR : oR (fun q => q ≠ t) xF xG F_ G_ tr_ t (setl (ps_tr (prd (blF xP 40) 1 (pg xF a) (pg xG b)) 40) (ps_tr (prd (blF xQ 40) 1 (pg xG a) (pg xF b)) 40)) := hR_
    rw [eN_, eD_] at hR
    show Z _ _ _ _ _ _ _ _ 66 _ []
    have e9 : oDiv (pg xF a, pg xG a) (pg xF b, pg xG b) = setl (ps_mul (pg xF a) (pg xG b)) (ps_mul (pg xG a) (pg xF b)) := pif_f hbz
    exact z_vret C ⟨rfl, rfl, (zoutR_tr hz_57 ho_63), tr_, F_, G_, P_, Q_, mm_, sl_, H_63, by rw [e9]; exact hR⟩ d_M_times_66
  · have hk13 := isC_pg hk1
    have c_18 : k1 = 0 := Nat.eq_zero_of_not_pos (fun q => c_18 ((tI_ge0 (n := k1) (by omega)).mpr q))
    refine z_aload_n C d_M_times_21 rfl rfl ?_
    refine z_bipush (v := -5) C d_M_times_22 (by decide) ?_
    refine z_put C in_M ty_M tok_M nm_M H.1 rfl 5 (by decide) fl_M_119 rfl rfl rfl (rfl) (rfl) (Nat.le_of_ble_eq_true rfl) d_M_times_24 ?_
    show Z _ _ _ _ _ _ _ (zU M m (.inr (10, [.ref (m + 1), .int (nI xlen), .int (nI xlab), .int xbad, .int (nI xlev), .int (-5), .int (nI xwa), .int (nI xpl), .int (nI xfo), .ref (m + 2), .ref (m + 3), .ref (m + 4), .ref (m + 5), .ref (m + 6), .ref (m + 7), .ref (m + 8), .ref (m + 9), .ref (m + 10), .ref (m + 11), .ref (m + 12), .ref (m + 13), .ref (m + 14)]))) _ _ _
    refine z_vret C ⟨rfl, rfl, (zoutR_tr zoutR_rf (zo_u (by omega) (by omega))), -5, xF, xG, xP, xQ, xmm, xsl, (mw_o H xlen xlab xbad xlev (-5) xwa xpl xfo), ?_⟩ d_M_times_27
    have e9 : oDiv (pg xF a, pg xG a) (pg xF b, pg xG b) = .inl (-5) := pif_t (fun i => hk1.1 i (by omega))
    rw [e9]
    exact ⟨fun q _ => ⟨rfl, rfl⟩, rfl⟩
set_option maxHeartbeats 4000000 in
/-- times behind a trouble -/
theorem m_timesT (E : zE) (l : Launch) (sz : Nat) (M : zM) {m : Nat} {xln : Nat → Nat} {xlen : Nat} {xlab : Nat} {xbad : Int32} {xlev : Nat} {xtr : Int32} {xwa : Nat} {xpl : Nat} {xfo : Nat} {xsf : Nat → Nat} {xbf : Nat → Nat} {xF : Nat → FF} {xG : Nat → FF} {xP : Nat → FF} {xQ : Nat → FF} {xmm : Nat → FF} {xsl : Nat → Nat} {xkd : Nat → Nat} {xhs : Nat → Nat} {xht : Nat → Nat} {xsg : Nat → Nat} {xdv : Nat → Nat} (H : mw E M m xln xlen xlab xbad xlev xtr xwa xpl xfo xsf xbf xF xG xP xQ xmm xsl xkd xhs xht xsg xdv) (a b d t : Nat) (htr : ¬ xtr = 0) : zMet E l y_M_times c_M_times 5 none { frames := 4, cells := 0, slots := 0, locals := 103 } 0 0 [.ref m, .int (nI a), .int (nI b), .int (nI d), .int (nI t)] sz M (zRet none sz M) := by
  refine zMet.ofZ (by decide) (Nat.le_of_ble_eq_true rfl) ?_
  intro X hl hini C
  show Z X E 5 _ 0 0 sz M 0 [(0, .ref m), (1, .int (nI a)), (2, .int (nI b)), (3, .int (nI d)), (4, .int (nI t))] []
  refine z_aload_n C d_M_times_0 rfl rfl ?_
  refine z_get C in_M H.1 rfl 5 (by decide) fl_M_119 rfl rfl d_M_times_1 ?_
  refine z_if_eq (tgt := 8) C d_M_times_4 (by decide) (fun c_4 => absurd c_4 (htr)) (fun _ => ?_)
  exact z_vret C ⟨rfl, rfl, rfl⟩ d_M_times_7
