set_option maxHeartbeats 4000000 in
/-- Shelf.shapeNumberFor -/
theorem h_shapeFor (E : zE) (l : Launch) (sz : Nat) (M : zM) {h : Nat} {fs : List (PS × PS)} {ss : List Nat} {nb : Nat → Nat} {sc : Nat} (H : zsf E M h fs ss nb sc) {q kn kd : Nat} {N D : PS} (hq : zf E M q kn kd N D) (aq : q + 5 ≤ h ∨ h + 204 ≤ q) : zMet E l y_H_shapeNumberFor c_H_shapeNumberFor 3 (some .int) { frames := 3, cells := 0, slots := 0, locals := 64 } 0 0 [.ref h, .ref q] sz M (fun v s M' => sz = s ∧ (∃ r sc' : Nat, some (.int (nI r)) = v ∧ shN fs ss sc (N, D) r sc' ∧ r ≤ sc' ∧ M' h = some (.inr (6, [.ref (h + 1), .ref (h + 2), .ref (h + 3), .int (nI fs.length), .int (nI sc')]))) ∧ ∀ x, x ≠ h → M' x = M x) := by
  obtain ⟨ff, sf, nf, h0, h1, h2, h3, ⟨hl1, hl2, hl3⟩, hff, hsf, hnf, hfm, hal⟩ := id H
  refine zMet.ofZ (by decide) (Nat.le_of_ble_eq_true rfl) ?_
  intro X hl hini C
  have loop : ∀ (m i : Nat), i ≤ fs.length → fs.length + 1 ≤ i + m → (∀ j : Nat, j < i → fs[j]? ≠ some (N, D)) → Z X E 3 (zQ X E 0 0 (fun v s M' => sz = s ∧ (∃ r sc' : Nat, some (.int (nI r)) = v ∧ shN fs ss sc (N, D) r sc' ∧ r ≤ sc' ∧ M' h = some (.inr (6, [.ref (h + 1), .ref (h + 2), .ref (h + 3), .int (nI fs.length), .int (nI sc')]))) ∧ ∀ x, x ≠ h → M' x = M x)) 0 0 sz M 2 [(0, .ref h), (1, .ref q), (2, .int (nI i))] [] := by
    intro m
    induction m with
    | zero => intro i h1 h2; omega
    | succ m ih =>
      intro i hi hm hg
      refine z_iload_n C d_H_shapeNumberFor_2 rfl rfl ?_
      refine z_aload_n C d_H_shapeNumberFor_3 rfl rfl ?_
      refine z_get C in_H h0 rfl 3 (by decide) fl_H_24 rfl rfl d_H_shapeNumberFor_4 ?_
      refine z_icmp_ge (tgt := 36) C d_H_shapeNumberFor_7 (by decide) (fun c7 => ?_) (fun c7 => ?_)
      · have c7 := (nI_leI (by omega) (by omega)).mp c7
        have hno : ∀ j : Nat, fs[j]? ≠ some (N, D) := fun j => by
          rcases Nat.lt_or_ge j i with q | q
          · exact hg j q
          · rw [List.getElem?_eq_none (by omega)]; exact fun e => by cases e
        refine z_aload_n C d_H_shapeNumberFor_36 rfl rfl ?_
        refine z_dup C d_H_shapeNumberFor_37 rfl ?_
        refine z_get C in_H h0 rfl 4 (by decide) fl_H_28 rfl rfl d_H_shapeNumberFor_38 ?_
        refine z_iconst (v := 1) C d_H_shapeNumberFor_41 (by decide) ?_
        refine z_iadd C d_H_shapeNumberFor_42 ?_
        refine z_top (y := nI (sc + 1)) (nI_1 sc) ?_
        refine z_put C in_H ty_H tok_H nm_H h0 rfl 4 (by decide) fl_H_28 rfl rfl rfl (rfl) (rfl) (Nat.le_of_ble_eq_true rfl) d_H_shapeNumberFor_43 ?_
        show Z _ _ _ _ _ _ _ (zU M h (.inr (6, [.ref (h + 1), .ref (h + 2), .ref (h + 3), .int (nI fs.length), .int (nI (sc + 1))]))) _ _ _
        refine z_aload_n C d_H_shapeNumberFor_46 rfl rfl ?_
        refine z_get C in_H zU_eq rfl 4 (by decide) fl_H_28 rfl rfl d_H_shapeNumberFor_47 ?_
        exact z_iret C ⟨rfl, ⟨_, sc + 1, rfl, Or.inr ⟨hno, rfl, rfl⟩, Nat.le_refl _, zU_eq⟩, fun _ hx => zU_ne hx⟩ d_H_shapeNumberFor_50
      · have c7 : i < fs.length := Nat.not_le.mp (fun q => c7 ((nI_leI (by omega) (by omega)).mpr q))
        have hx : fs[i]? = some fs[i] := List.getElem?_eq_getElem c7
        obtain ⟨a1, a2, hz⟩ := hfm i _ hx
        refine z_aload_n C d_H_shapeNumberFor_10 rfl rfl ?_
        refine z_get C in_H h0 rfl 0 (by decide) fl_H_11 rfl rfl d_H_shapeNumberFor_11 ?_
        refine z_iload_n C d_H_shapeNumberFor_14 rfl rfl ?_
        refine z_aald C h1 3 rfl i (rfl) (by omega) (by decide) (congrArg va_rf (hff i (by omega))) d_H_shapeNumberFor_15 ?_
        refine z_aload_n C d_H_shapeNumberFor_16 rfl rfl ?_
        refine z_callV (rest := []) (n := 1) (As := [.ref q]) C (f_isSame E X.2.1 sz _ hz hq) ⟨z_cb C k_F_isSame ml_H_44 ii_F rfl rfl (by decide +kernel) ⟨by decide, by decide⟩, C.2.2.2.2.1 _ im_F_isSame, C.2.2.2.2.1 _ se_F_isSame⟩ hz.1 rfl rfl rfl (Nat.le_of_ble_eq_true rfl) d_H_shapeNumberFor_17 ⟨by decide, by decide⟩ ?_
        intro v_17 s_17 M_17 hp_17
        obtain ⟨rfl, rfl, ⟨e_17, rfl⟩ | ⟨e_17, rfl⟩⟩ := hp_17
        · show Z _ _ _ _ _ _ _ _ 20 _ [.int 1]
          refine z_if_eq (tgt := 30) C d_H_shapeNumberFor_20 (by decide) (fun c_20 => absurd c_20 (by decide)) (fun _ => ?_)
          refine z_aload_n C d_H_shapeNumberFor_23 rfl rfl ?_
          refine z_get C in_H h0 rfl 1 (by decide) fl_H_17 rfl rfl d_H_shapeNumberFor_24 ?_
          refine z_iload_n C d_H_shapeNumberFor_27 rfl rfl ?_
          have hs : ss[i]? = some (ss.getD i 0) := by
            rw [List.getD_eq_getElem?_getD, List.getElem?_eq_getElem (by omega)]; rfl
          refine z_iald C h2 0 rfl i (rfl) (by omega) (by decide) d_H_shapeNumberFor_28 ?_
          refine z_top (y := nI (ss.getD i 0)) ((hsf i _ hs).1) ?_
          exact z_iret C ⟨rfl, ⟨_, sc, rfl, Or.inl ⟨i, by rw [hx]; exact congrArg some (Prod.ext e_17.1 e_17.2), hg, hs, rfl⟩, (hsf i _ hs).2, h0⟩, fun _ _ => rfl⟩ d_H_shapeNumberFor_29
        · show Z _ _ _ _ _ _ _ _ 20 _ [.int 0]
          refine z_if_eq (tgt := 30) C d_H_shapeNumberFor_20 (by decide) (fun _ => ?_) (fun c_20 => absurd (by decide) c_20)
          refine z_iinc (v := nI (i + 1)) (L' := [(0, .ref h), (1, .ref q), (2, .int (nI (i + 1)))]) C d_H_shapeNumberFor_30 rfl (nI_1 i) (by decide) rfl ?_
          refine z_goto (tgt := 2) C d_H_shapeNumberFor_33 (by decide) ?_
          refine ih (i + 1) (by omega) (by omega) (fun j hj => ?_)
          rcases Nat.lt_or_ge j i with q | q
          · exact hg j q
          · rw [show j = i by omega, hx]
            intro e
            have e := Option.some.inj e
            exact e_17 ⟨congrArg Prod.fst e, congrArg Prod.snd e⟩
  show Z X E 3 _ 0 0 sz M 0 [(0, .ref h), (1, .ref q)] []
  refine z_iconst (v := nI 0) C d_H_shapeNumberFor_0 (by decide) ?_
  refine z_istore_n (L' := [(0, .ref h), (1, .ref q), (2, .int (nI 0))]) C d_H_shapeNumberFor_1 rfl (by decide) rfl ?_
  exact loop (fs.length + 1) 0 (by omega) (by omega) (fun j hj => absurd hj (by omega))
/-- the next label's place is written -/
theorem zsf_slot {E : zE} {M M' : zM} {h kn kd : Nat} {N D : PS} {fs : List (PS × PS)} {ss : List Nat} {nb : Nat → Nat} {sc : Nat} (H : zsf E M h fs ss nb sc) (hl : fs.length < 40) (ho : zoutR M M' (h + 4 + 5 * fs.length + 1) (h + 4 + 5 * fs.length + 5)) (hz : zf E M' (h + 4 + 5 * fs.length) kn kd N D) : zsf E M' h fs ss nb sc := by
  obtain ⟨ff, sf, nf, h0, h1, h2, h3, hl, hff, hsf, hnf, hfm, hal⟩ := H
  refine ⟨ff, sf, nf, (ho h (by omega)).trans h0, (ho (h + 1) (by omega)).trans h1, (ho (h + 2) (by omega)).trans h2, (ho (h + 3) (by omega)).trans h3, hl, hff, hsf, hnf, fun i x hx => ?_, fun i hi => ?_⟩
  · obtain ⟨a1, a2, a3⟩ := hfm i x hx
    have := (List.getElem?_eq_some_iff.mp hx).1
    exact ⟨a1, a2, zf_oR ho a3 (by omega)⟩
  · by_cases q : i = fs.length
    · rw [q]; exact ⟨_, _, _, _, hz⟩
    · obtain ⟨a1, a2, a3, a4, a5⟩ := hal i hi
      exact ⟨a1, a2, a3, a4, zf_oR ho a5 (by omega)⟩
/-- what is kept: one label more -/
theorem zsf_add {E : zE} {M M' : zM} {h kn kd r sc' : Nat} {N D : PS} {fs : List (PS × PS)} {ss : List Nat} {nb : Nat → Nat} {sc : Nat} {sf' : Nat → Int32} (H : zsf E M h fs ss nb sc) (hlt : fs.length < 40) (hz : zf E M (h + 4 + 5 * fs.length) kn kd N D) (hs1 : r ≤ sc') (hs2 : sc ≤ sc') (hs3 : sc' ≤ fs.length + 1) (g0 : M' h = some (.inr (6, [.ref (h + 1), .ref (h + 2), .ref (h + 3), .int (nI (fs.length + 1)), .int (nI sc')]))) (g2 : M' (h + 2) = some (.inl (E.2.1 0, 40, .inl sf'))) (hsn : sf' fs.length = nI r) (hso : ∀ i s, ss[i]? = some s → sf' i = nI s) (ho : ∀ x, x ≠ h → x ≠ h + 2 → M' x = M x) : zsf E M' h (fs ++ [(N, D)]) (ss ++ [r]) nb sc' := by
  obtain ⟨ff, sf, nf, h0, h1, h2, h3, ⟨hl1, hl2, hl3⟩, hff, hsf, hnf, hfm, hal⟩ := H
  have kf : ∀ i : Nat, i < 40 → ∀ {a b : Nat} {A B : PS}, zf E M (h + 4 + 5 * i) a b A B → zf E M' (h + 4 + 5 * i) a b A B := fun i hi a b A B q => ⟨(ho _ (by omega) (by omega)).trans q.1, zp_kept q.2.1 (ho _ (by omega) (by omega)) (ho _ (by omega) (by omega)), zp_kept q.2.2 (ho _ (by omega) (by omega)) (ho _ (by omega) (by omega))⟩
  refine ⟨ff, sf', nf, by rw [List.length_append]; exact g0, (ho _ (by omega) (by omega)).trans h1, g2, (ho _ (by omega) (by omega)).trans h3, ⟨by simp; omega, by simp; omega, by simp; omega⟩, hff, fun i s hs => ?_, fun i hi => ⟨(hnf i hi).1, by have := (hnf i hi).2; simp; omega⟩, fun i x hx => ?_, fun i hi => ?_⟩
  · rcases ap_get hs with ⟨q1, q2⟩ | ⟨q1, q2⟩
    · exact ⟨hso i s q1, by have := (hsf i s q1).2; omega⟩
    · rw [q1, hl2, ← q2]; exact ⟨hsn, hs1⟩
  · rcases ap_get hx with ⟨q1, q2⟩ | ⟨q1, q2⟩
    · obtain ⟨a1, a2, a3⟩ := hfm i x q1
      exact ⟨a1, a2, kf i (by omega) a3⟩
    · rw [q1, ← q2]; exact ⟨_, _, kf _ (by omega) hz⟩
  · obtain ⟨a1, a2, a3, a4, a5⟩ := hal i hi
    exact ⟨a1, a2, a3, a4, kf i hi a5⟩
theorem shN_le {fs : List (PS × PS)} {ss : List Nat} {sc v sc' : Nat} {x : PS × PS} (h : shN fs ss sc x v sc') : sc ≤ sc' ∧ sc' ≤ sc + 1 := by
  rcases h with ⟨i, -, -, -, e⟩ | ⟨-, -, e⟩ <;> omega
set_option maxHeartbeats 4000000 in
/-- Shelf.keep -/
theorem h_keep (E : zE) (l : Launch) (sz : Nat) (M : zM) {h : Nat} {fs : List (PS × PS)} {ss : List Nat} {nb : Nat → Nat} {sc : Nat} (H : zsf E M h fs ss nb sc) {q kn kd : Nat} {N D : PS} (hq : zf E M q kn kd N D) (aq : q + 5 ≤ h ∨ h + 204 ≤ q) (hfull : fs.length < 40) : zMet E l y_H_keep c_H_keep 2 (some .int) { frames := 4, cells := 0, slots := 0, locals := 86 } 0 0 [.ref h, .ref q] sz M (fun v s M' => sz = s ∧ some (.int (nI (fs.length + 1))) = v ∧ zoutR M M' h (h + 204) ∧ ∃ r sc' : Nat, shN fs ss sc (N, D) r sc' ∧ zsf E M' h (fs ++ [(N, D)]) (ss ++ [r]) nb sc') := by
  obtain ⟨ff, sf, nf, h0, h1, h2, h3, ⟨hl1, hl2, hl3⟩, hff, hsf, hnf, hfm, hal⟩ := id H
  obtain ⟨b1, b2, b3, b4, hz⟩ := hal fs.length hfull
  refine zMet.ofZ (by decide) (Nat.le_of_ble_eq_true rfl) ?_
  intro X hl hini C
  show Z X E 2 _ 0 0 sz M 0 [(0, .ref h), (1, .ref q)] []
  refine z_aload_n C d_H_keep_0 rfl rfl ?_
  refine z_callV (rest := []) (n := 0) (As := []) C (h_isFull E X.2.1 sz _ H) ⟨z_cb C k_H_isFull ml_H_32 ii_H rfl rfl (by decide +kernel) ⟨by decide, by decide⟩, C.2.2.2.2.1 _ im_H_isFull, C.2.2.2.2.1 _ se_H_isFull⟩ h0 rfl rfl rfl (Nat.le_of_ble_eq_true rfl) d_H_keep_1 ⟨by decide, by decide⟩ ?_
  intro v_1 s_1 M_1 hp_1
  obtain ⟨rfl, rfl, rfl⟩ := hp_1
  show Z _ _ _ _ _ _ _ _ 4 _ [.int (if fs.length = 40 then 1 else 0)]
  refine z_if_eq (tgt := 10) C d_H_keep_4 (by decide) (fun _ => ?_) (fun c_4 => absurd (if_neg (by omega)) c_4)
  refine z_aload_n C d_H_keep_10 rfl rfl ?_
  refine z_get C in_H h0 rfl 0 (by decide) fl_H_11 rfl rfl d_H_keep_11 ?_
  refine z_aload_n C d_H_keep_14 rfl rfl ?_
  refine z_get C in_H h0 rfl 3 (by decide) fl_H_24 rfl rfl d_H_keep_15 ?_
  refine z_aald C h1 3 rfl fs.length (rfl) (hfull) (by decide) (congrArg va_rf (hff _ hfull)) d_H_keep_18 ?_
  refine z_aload_n C d_H_keep_19 rfl rfl ?_
  refine z_callV (rest := []) (n := 1) (As := [.ref q]) C (f_copy E X.2.1 sz _ hz hq (by omega)) ⟨z_cb C k_F_copy ml_H_36 ii_F rfl rfl (by decide +kernel) ⟨by decide, by decide⟩, C.2.2.2.2.1 _ im_F_copy, C.2.2.2.2.1 _ se_F_copy⟩ hz.1 rfl rfl rfl (Nat.le_of_ble_eq_true rfl) d_H_keep_20 ⟨by decide, by decide⟩ ?_
  intro v_20 s_20 M1 hp_20
  obtain ⟨rfl, rfl, hz1, ho1⟩ := hp_20
  have H1 := zsf_slot H hfull ho1 hz1
  have hq1 := zf_oR ho1 hq (by omega)
  have g0 := (ho1 h (by omega)).trans h0
  have g1 := (ho1 (h + 1) (by omega)).trans h1
  have g2 := (ho1 (h + 2) (by omega)).trans h2
  have g3 := (ho1 (h + 3) (by omega)).trans h3
  show Z _ _ _ _ _ _ _ _ 23 _ []
  refine z_aload_n C d_H_keep_23 rfl rfl ?_
  refine z_get C in_H g0 rfl 1 (by decide) fl_H_17 rfl rfl d_H_keep_24 ?_
  refine z_aload_n C d_H_keep_27 rfl rfl ?_
  refine z_get C in_H g0 rfl 3 (by decide) fl_H_24 rfl rfl d_H_keep_28 ?_
  refine z_aload_n C d_H_keep_31 rfl rfl ?_
  refine z_aload_n C d_H_keep_32 rfl rfl ?_
  refine z_callV (rest := [.int (nI fs.length), .ref (h + 2)]) (n := 1) (As := [.ref q]) C (h_shapeFor E X.2.1 sz _ H1 hq1 aq) ⟨z_cb C k_H_shapeNumberFor ml_H_40 ii_H rfl rfl (by decide +kernel) ⟨by decide, by decide⟩, C.2.2.2.2.1 _ im_H_shapeNumberFor, C.2.2.2.2.1 _ se_H_shapeNumberFor⟩ g0 rfl rfl rfl (Nat.le_of_ble_eq_true rfl) d_H_keep_33 ⟨by decide, by decide⟩ ?_
  intro v_33 s_33 M2 hp_33
  obtain ⟨rfl, ⟨r, sc', rfl, hsh, hrs, k0⟩, ho2⟩ := hp_33
  have k2 := (ho2 (h + 2) (by omega)).trans g2
  have k1 := (ho2 (h + 1) (by omega)).trans g1
  have k3 := (ho2 (h + 3) (by omega)).trans g3
  have hb := shN_le hsh
  show Z _ _ _ _ _ _ _ _ 36 _ [.int (nI r), .int (nI fs.length), .ref (h + 2)]
  refine z_iast C k2 0 rfl fs.length (rfl) (hfull) (by decide) d_H_keep_36 ?_
  refine z_aload_n C d_H_keep_37 rfl rfl ?_
  refine z_dup C d_H_keep_38 rfl ?_
  refine z_get C in_H ((zU_ne (by omega)).trans k0) rfl 3 (by decide) fl_H_24 rfl rfl d_H_keep_39 ?_
  refine z_iconst (v := 1) C d_H_keep_42 (by decide) ?_
  refine z_iadd C d_H_keep_43 ?_
  refine z_top (y := nI (fs.length + 1)) (nI_1 _) ?_
  refine z_put C in_H ty_H tok_H nm_H ((zU_ne (by omega)).trans k0) rfl 3 (by decide) fl_H_24 rfl rfl rfl (rfl) (rfl) (Nat.le_of_ble_eq_true rfl) d_H_keep_44 ?_
  show Z _ _ _ _ _ _ _ (zU (zU M2 (h + 2) (.inl (E.2.1 0, 40, .inl (upd sf fs.length (nI r))))) h (.inr (6, [.ref (h + 1), .ref (h + 2), .ref (h + 3), .int (nI (fs.length + 1)), .int (nI sc')]))) _ _ _
  refine z_aload_n C d_H_keep_47 rfl rfl ?_
  refine z_get C in_H zU_eq rfl 3 (by decide) fl_H_24 rfl rfl d_H_keep_48 ?_
  refine z_iret C ⟨rfl, rfl, fun x hx => (zU_ne (by omega)).trans ((zU_ne (by omega)).trans ((ho2 x (by omega)).trans (ho1 x (by omega)))), r, sc', hsh, zsf_add H1 hfull hz1 hrs hb.1 (by omega) zU_eq ((zU_ne (by omega)).trans zU_eq) upd_eq (fun i s hs => ?_) (fun x q1 q2 => (zU_ne q1).trans ((zU_ne q2).trans (ho2 x q1)))⟩ d_H_keep_51
  have := (List.getElem?_eq_some_iff.mp hs).1
  rw [upd_ne (by omega)]
  exact (hsf i s hs).1
