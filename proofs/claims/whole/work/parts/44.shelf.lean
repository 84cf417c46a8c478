set_option maxHeartbeats 4000000 in
/-- Shelf.isFull -/
theorem h_isFull (E : zE) (l : Launch) (sz : Nat) (M : zM) {h : Nat} {fs : List (PS × PS)} {ss : List Nat} {nb : Nat → Nat} {sc : Nat} (H : zsf E M h fs ss nb sc) : zMet E l y_H_isFull c_H_isFull 1 (some .boolean) { frames := 0, cells := 0, slots := 0, locals := 0 } 0 0 [.ref h] sz M (zRet (some (.int (if fs.length = 40 then 1 else 0))) sz M) := by
  obtain ⟨ff, sf, nf, h0, h1, h2, h3, ⟨hl1, hl2, hl3⟩, hff, hsf, hnf, hfm, hal⟩ := id H
  refine zMet.ofZ (by decide) (Nat.le_of_ble_eq_true rfl) ?_
  intro X hl hini C
  show Z X E 1 _ 0 0 sz M 0 [(0, .ref h)] []
  refine z_aload_n C d_H_isFull_0 rfl rfl ?_
  refine z_get C in_H h0 rfl 3 (by decide) fl_H_24 rfl rfl d_H_isFull_1 ?_
  refine z_bipush (v := nI 40) C d_H_isFull_4 (by decide) ?_
  refine z_icmp_lt (tgt := 13) C d_H_isFull_6 (by decide) (fun c6 => ?_) (fun c6 => ?_)
  · have c6 := (nI_ltI (by omega) (by decide)).mp c6
    refine z_iconst (v := 0) C d_H_isFull_13 (by decide) ?_
    exact z_zret C rfl ⟨by rw [if_neg (by omega)], rfl, rfl⟩ d_H_isFull_14
  · have c6 : fs.length = 40 := by
      rcases Nat.lt_or_ge fs.length 40 with q | q
      · exact absurd ((nI_ltI (by omega) (by decide)).mpr q) c6
      · omega
    refine z_iconst (v := 1) C d_H_isFull_9 (by decide) ?_
    refine z_goto (tgt := 14) C d_H_isFull_10 (by decide) ?_
    exact z_zret C rfl ⟨by rw [if_pos c6], rfl, rfl⟩ d_H_isFull_14
set_option maxHeartbeats 4000000 in
/-- Shelf.find -/
theorem h_find (E : zE) (l : Launch) (sz : Nat) (M : zM) {h : Nat} {fs : List (PS × PS)} {ss : List Nat} {nb : Nat → Nat} {sc : Nat} (H : zsf E M h fs ss nb sc) (x : Int32) : zMet E l y_H_find c_H_find 2 (some (FieldType.object "RationalSession$Form")) { frames := 0, cells := 0, slots := 0, locals := 0 } 0 0 [.ref h, .int x] sz M (fun v s M' => sz = s ∧ M = M' ∧ ((∃ i : Nat, i < fs.length ∧ x = nI (i + 1) ∧ some (.ref (h + 4 + 5 * i)) = v) ∨ ((¬ ∃ i : Nat, i < fs.length ∧ x = nI (i + 1)) ∧ some .null = v))) := by
  obtain ⟨ff, sf, nf, h0, h1, h2, h3, ⟨hl1, hl2, hl3⟩, hff, hsf, hnf, hfm, hal⟩ := id H
  refine zMet.ofZ (by decide) (Nat.le_of_ble_eq_true rfl) ?_
  intro X hl hini C
  show Z X E 2 _ 0 0 sz M 0 [(0, .ref h), (1, .int x)] []
  refine z_iload_n C d_H_find_0 rfl rfl ?_
  refine z_iconst (v := nI 1) C d_H_find_1 (by decide) ?_
  refine z_icmp_lt (tgt := 24) C d_H_find_2 (by decide) (fun c2 => ?_) (fun c2 => ?_)
  · have no : ¬ ∃ i, i < fs.length ∧ x = nI (i + 1) := by
      rintro ⟨i, hi, rfl⟩
      exact absurd ((nI_ltI (by omega) (by decide)).mp c2) (by omega)
    refine z_null C d_H_find_24 ?_
    exact z_aret C (Or.inl ⟨_, rfl⟩) (Or.inl rfl) ⟨rfl, rfl, Or.inr ⟨no, rfl⟩⟩ d_H_find_25
  · have g1 : nI 1 ≤ x := Int32.not_lt.mp c2
    refine z_iload_n C d_H_find_5 rfl rfl ?_
    refine z_aload_n C d_H_find_6 rfl rfl ?_
    refine z_get C in_H h0 rfl 3 (by decide) fl_H_24 rfl rfl d_H_find_7 ?_
    refine z_icmp_gt (tgt := 24) C d_H_find_10 (by decide) (fun c10 => ?_) (fun c10 => ?_)
    · have no : ¬ ∃ i, i < fs.length ∧ x = nI (i + 1) := by
        rintro ⟨i, hi, rfl⟩
        exact absurd ((nI_ltI (by omega) (by omega)).mp c10) (by omega)
      refine z_null C d_H_find_24 ?_
      exact z_aret C (Or.inl ⟨_, rfl⟩) (Or.inl rfl) ⟨rfl, rfl, Or.inr ⟨no, rfl⟩⟩ d_H_find_25
    · have g2 : x ≤ nI fs.length := Int32.not_lt.mp c10
      obtain ⟨i, hi, rfl⟩ : ∃ i, i < fs.length ∧ x = nI (i + 1) := by
        obtain ⟨j, hj, e9⟩ := nI_of (x := x) (by
          intro q
          exact absurd (Int32.lt_of_le_of_lt g1 q) (by decide))
        rw [e9] at g1 g2
        have g1 := (nI_leI (by decide) hj).mp g1
        have g2 := (nI_leI hj (by omega)).mp g2
        exact ⟨j - 1, by omega, by rw [e9]; congr 1; omega⟩
      refine z_aload_n C d_H_find_13 rfl rfl ?_
      refine z_get C in_H h0 rfl 0 (by decide) fl_H_11 rfl rfl d_H_find_14 ?_
      refine z_iload_n C d_H_find_17 rfl rfl ?_
      refine z_iconst (v := nI 1) C d_H_find_18 (by decide) ?_
      refine z_isub C d_H_find_19 ?_
      refine z_top (y := nI i) (pk_sub (a := i + 1) (b := 1) (by omega)) ?_
      refine z_aald C h1 3 rfl i (rfl) (by omega) (by decide) (congrArg va_rf (hff i (by omega))) d_H_find_20 ?_
      refine z_goto (tgt := 25) C d_H_find_21 (by decide) ?_
      exact z_aret C (Or.inl ⟨_, rfl⟩) (Or.inr ⟨_, rfl⟩) ⟨rfl, rfl, Or.inl ⟨i, hi, rfl, rfl⟩⟩ d_H_find_25
set_option maxHeartbeats 4000000 in
/-- Shelf.shapeOf -/
theorem h_shapeOf (E : zE) (l : Launch) (sz : Nat) (M : zM) {h : Nat} {fs : List (PS × PS)} {ss : List Nat} {nb : Nat → Nat} {sc : Nat} (H : zsf E M h fs ss nb sc) (x : Int32) : zMet E l y_H_shapeOf c_H_shapeOf 2 (some .int) { frames := 0, cells := 0, slots := 0, locals := 0 } 0 0 [.ref h, .int x] sz M (fun v s M' => sz = s ∧ M = M' ∧ ((∃ i : Nat, i < fs.length ∧ x = nI (i + 1) ∧ some (.int (nI (ss.getD i 0))) = v) ∨ ((¬ ∃ i : Nat, i < fs.length ∧ x = nI (i + 1)) ∧ some (.int 0) = v))) := by
  obtain ⟨ff, sf, nf, h0, h1, h2, h3, ⟨hl1, hl2, hl3⟩, hff, hsf, hnf, hfm, hal⟩ := id H
  refine zMet.ofZ (by decide) (Nat.le_of_ble_eq_true rfl) ?_
  intro X hl hini C
  show Z X E 2 _ 0 0 sz M 0 [(0, .ref h), (1, .int x)] []
  refine z_iload_n C d_H_shapeOf_0 rfl rfl ?_
  refine z_iconst (v := nI 1) C d_H_shapeOf_1 (by decide) ?_
  refine z_icmp_lt (tgt := 24) C d_H_shapeOf_2 (by decide) (fun c2 => ?_) (fun c2 => ?_)
  · have no : ¬ ∃ i, i < fs.length ∧ x = nI (i + 1) := by
      rintro ⟨i, hi, rfl⟩
      exact absurd ((nI_ltI (by omega) (by decide)).mp c2) (by omega)
    refine z_iconst (v := 0) C d_H_shapeOf_24 (by decide) ?_
    exact z_iret C ⟨rfl, rfl, Or.inr ⟨no, rfl⟩⟩ d_H_shapeOf_25
  · have g1 : nI 1 ≤ x := Int32.not_lt.mp c2
    refine z_iload_n C d_H_shapeOf_5 rfl rfl ?_
    refine z_aload_n C d_H_shapeOf_6 rfl rfl ?_
    refine z_get C in_H h0 rfl 3 (by decide) fl_H_24 rfl rfl d_H_shapeOf_7 ?_
    refine z_icmp_gt (tgt := 24) C d_H_shapeOf_10 (by decide) (fun c10 => ?_) (fun c10 => ?_)
    · have no : ¬ ∃ i, i < fs.length ∧ x = nI (i + 1) := by
        rintro ⟨i, hi, rfl⟩
        exact absurd ((nI_ltI (by omega) (by omega)).mp c10) (by omega)
      refine z_iconst (v := 0) C d_H_shapeOf_24 (by decide) ?_
      exact z_iret C ⟨rfl, rfl, Or.inr ⟨no, rfl⟩⟩ d_H_shapeOf_25
    · have g2 : x ≤ nI fs.length := Int32.not_lt.mp c10
      obtain ⟨i, hi, rfl⟩ : ∃ i, i < fs.length ∧ x = nI (i + 1) := by
        obtain ⟨j, hj, e9⟩ := nI_of (x := x) (by
          intro q
          exact absurd (Int32.lt_of_le_of_lt g1 q) (by decide))
        rw [e9] at g1 g2
        have g1 := (nI_leI (by decide) hj).mp g1
        have g2 := (nI_leI hj (by omega)).mp g2
        exact ⟨j - 1, by omega, by rw [e9]; congr 1; omega⟩
      refine z_aload_n C d_H_shapeOf_13 rfl rfl ?_
      refine z_get C in_H h0 rfl 1 (by decide) fl_H_17 rfl rfl d_H_shapeOf_14 ?_
      refine z_iload_n C d_H_shapeOf_17 rfl rfl ?_
      refine z_iconst (v := nI 1) C d_H_shapeOf_18 (by decide) ?_
      refine z_isub C d_H_shapeOf_19 ?_
      refine z_top (y := nI i) (pk_sub (a := i + 1) (b := 1) (by omega)) ?_
      have hx : ss[i]? = some (ss.getD i 0) := by
        rw [List.getD_eq_getElem?_getD, List.getElem?_eq_getElem (by omega)]; rfl
      refine z_iald C h2 0 rfl i (rfl) (by omega) (by decide) d_H_shapeOf_20 ?_
      refine z_top (y := nI (ss.getD i 0)) ((hsf i _ hx).1) ?_
      refine z_goto (tgt := 25) C d_H_shapeOf_21 (by decide) ?_
      exact z_iret C ⟨rfl, rfl, Or.inl ⟨i, hi, rfl, rfl⟩⟩ d_H_shapeOf_25
set_option maxHeartbeats 4000000 in
/-- Shelf.labelBoundTo -/
theorem h_boundTo (E : zE) (l : Launch) (sz : Nat) (M : zM) {h : Nat} {fs : List (PS × PS)} {ss : List Nat} {nb : Nat → Nat} {sc : Nat} (H : zsf E M h fs ss nb sc) (i : Nat) (hi : i < 3) : zMet E l y_H_labelBoundTo c_H_labelBoundTo 2 (some .int) { frames := 0, cells := 0, slots := 0, locals := 0 } 0 0 [.ref h, .int (nI i)] sz M (zRet (some (.int (nI (nb i)))) sz M) := by
  obtain ⟨ff, sf, nf, h0, h1, h2, h3, ⟨hl1, hl2, hl3⟩, hff, hsf, hnf, hfm, hal⟩ := id H
  refine zMet.ofZ (by decide) (Nat.le_of_ble_eq_true rfl) ?_
  intro X hl hini C
  show Z X E 2 _ 0 0 sz M 0 [(0, .ref h), (1, .int (nI i))] []
  refine z_iload_n C d_H_labelBoundTo_0 rfl rfl ?_
  refine z_if_lt (tgt := 18) C d_H_labelBoundTo_1 (by decide) (fun c_1 => absurd c_1 (nI_pos (by omega))) (fun _ => ?_)
  refine z_iload_n C d_H_labelBoundTo_4 rfl rfl ?_
  refine z_iconst (v := nI 3) C d_H_labelBoundTo_5 (by decide) ?_
  refine z_icmp_ge (tgt := 18) C d_H_labelBoundTo_6 (by decide) (fun c_6 => absurd c_6 (fun q => absurd ((nI_leI (by decide) (by omega)).mp q) (by omega))) (fun _ => ?_)
  refine z_aload_n C d_H_labelBoundTo_9 rfl rfl ?_
  refine z_get C in_H h0 rfl 2 (by decide) fl_H_21 rfl rfl d_H_labelBoundTo_10 ?_
  refine z_iload_n C d_H_labelBoundTo_13 rfl rfl ?_
  refine z_iald C h3 0 rfl i (rfl) (hi) (by decide) d_H_labelBoundTo_14 ?_
  refine z_top (y := nI (nb i)) ((hnf i hi).1) ?_
  refine z_goto (tgt := 19) C d_H_labelBoundTo_15 (by decide) ?_
  exact z_iret C ⟨rfl, rfl, rfl⟩ d_H_labelBoundTo_19
set_option maxHeartbeats 4000000 in
/-- Shelf.bind -/
theorem h_bind (E : zE) (l : Launch) (sz : Nat) (M : zM) {h : Nat} {fs : List (PS × PS)} {ss : List Nat} {nb : Nat → Nat} {sc : Nat} (H : zsf E M h fs ss nb sc) (i l1 : Nat) (hi : i < 3) (hb1 : l1 ≤ fs.length) : zMet E l y_H_bind c_H_bind 3 none { frames := 0, cells := 0, slots := 0, locals := 0 } 0 0 [.ref h, .int (nI i), .int (nI l1)] sz M (fun v s M' => none = v ∧ sz = s ∧ zoutR M M' h (h + 4) ∧ zsf E M' h fs ss (fun j => if j = i then l1 else nb j) sc) := by
  obtain ⟨ff, sf, nf, h0, h1, h2, h3, ⟨hl1, hl2, hl3⟩, hff, hsf, hnf, hfm, hal⟩ := id H
  refine zMet.ofZ (by decide) (Nat.le_of_ble_eq_true rfl) ?_
  intro X hl hini C
  show Z X E 3 _ 0 0 sz M 0 [(0, .ref h), (1, .int (nI i)), (2, .int (nI l1))] []
  refine z_iload_n C d_H_bind_0 rfl rfl ?_
  refine z_if_lt (tgt := 16) C d_H_bind_1 (by decide) (fun c_1 => absurd c_1 (nI_pos (by omega))) (fun _ => ?_)
  refine z_iload_n C d_H_bind_4 rfl rfl ?_
  refine z_iconst (v := nI 3) C d_H_bind_5 (by decide) ?_
  refine z_icmp_ge (tgt := 16) C d_H_bind_6 (by decide) (fun c_6 => absurd c_6 (fun q => absurd ((nI_leI (by decide) (by omega)).mp q) (by omega))) (fun _ => ?_)
  refine z_aload_n C d_H_bind_9 rfl rfl ?_
  refine z_get C in_H h0 rfl 2 (by decide) fl_H_21 rfl rfl d_H_bind_10 ?_
  refine z_iload_n C d_H_bind_13 rfl rfl ?_
  refine z_iload_n C d_H_bind_14 rfl rfl ?_
  refine z_iast C h3 0 rfl i (rfl) (hi) (by decide) d_H_bind_15 ?_
  have ho : zoutR M (zU M (h + 3) (.inl (E.2.1 0, 3, .inl (upd nf i (nI l1))))) h (h + 4) := fun q hq => zU_ne (by omega)
  refine z_vret C ⟨rfl, rfl, ho, ff, sf, upd nf i (nI l1), (zU_ne (by omega)).trans h0, (zU_ne (by omega)).trans h1, (zU_ne (by omega)).trans h2, zU_eq, ⟨hl1, hl2, hl3⟩, hff, hsf, fun j hj => ?_, fun j x hx => ?_, fun j hj => ?_⟩ d_H_bind_16
  · dsimp only
    by_cases q : j = i
    · rw [q, upd_eq, if_pos rfl]; exact ⟨rfl, hb1⟩
    · rw [upd_ne q, if_neg q]; exact hnf j hj
  · obtain ⟨a1, a2, a3⟩ := hfm j x hx
    exact ⟨a1, a2, zf_oR ho a3 (by omega)⟩
  · obtain ⟨a1, a2, a3, a4, a5⟩ := hal j hj
    exact ⟨a1, a2, a3, a4, zf_oR ho a5 (by omega)⟩
set_option maxHeartbeats 4000000 in
/-- Shelf.bind without a name -/
theorem h_bindNo (E : zE) (l : Launch) (sz : Nat) (M : zM) {h : Nat} {fs : List (PS × PS)} {ss : List Nat} {nb : Nat → Nat} {sc : Nat} (H : zsf E M h fs ss nb sc) (x l1 : Int32) (hx : x < 0) : zMet E l y_H_bind c_H_bind 3 none { frames := 0, cells := 0, slots := 0, locals := 0 } 0 0 [.ref h, .int x, .int l1] sz M (zRet none sz M) := by
  obtain ⟨ff, sf, nf, h0, h1, h2, h3, ⟨hl1, hl2, hl3⟩, hff, hsf, hnf, hfm, hal⟩ := id H
  refine zMet.ofZ (by decide) (Nat.le_of_ble_eq_true rfl) ?_
  intro X hl hini C
  show Z X E 3 _ 0 0 sz M 0 [(0, .ref h), (1, .int x), (2, .int l1)] []
  refine z_iload_n C d_H_bind_0 rfl rfl ?_
  refine z_if_lt (tgt := 16) C d_H_bind_1 (by decide) (fun _ => ?_) (fun c_1 => absurd (hx) c_1)
  exact z_vret C ⟨rfl, rfl, rfl⟩ d_H_bind_16
set_option maxHeartbeats 4000000 in
/-- Shelf.clear -/
theorem h_clear (E : zE) (l : Launch) (sz : Nat) (M : zM) {h : Nat} {fs : List (PS × PS)} {ss : List Nat} {nb : Nat → Nat} {sc : Nat} (H : zsf E M h fs ss nb sc) : zMet E l y_H_clear c_H_clear 2 none { frames := 0, cells := 0, slots := 0, locals := 0 } 0 0 [.ref h] sz M (fun v s M' => none = v ∧ sz = s ∧ zoutR M M' h (h + 4) ∧ zsf E M' h [] [] (fun _ => 0) 0) := by
  obtain ⟨ff, sf, nf, h0, h1, h2, h3, ⟨hl1, hl2, hl3⟩, hff, hsf, hnf, hfm, hal⟩ := id H
  refine zMet.ofZ (by decide) (Nat.le_of_ble_eq_true rfl) ?_
  intro X hl hini C
  have loop : ∀ (m i : Nat) (g : Nat → Int32), i ≤ 3 → 4 ≤ i + m → (∀ j, j < i → g j = nI 0) → Z X E 2 (zQ X E 0 0 (fun v s M' => none = v ∧ sz = s ∧ zoutR M M' h (h + 4) ∧ zsf E M' h [] [] (fun _ => 0) 0)) 0 0 sz (zU (zU M h (.inr (6, [.ref (h + 1), .ref (h + 2), .ref (h + 3), .int (nI 0), .int (nI 0)]))) (h + 3) (.inl (E.2.1 0, 3, .inl g))) 12 [(0, .ref h), (1, .int (nI i))] [] := by
    intro m
    induction m with
    | zero => intro i g h1 h2; omega
    | succ m ih =>
      intro i g hi hm hg
      refine z_iload_n C d_H_clear_12 rfl rfl ?_
      refine z_iconst (v := nI 3) C d_H_clear_13 (by decide) ?_
      refine z_icmp_ge (tgt := 30) C d_H_clear_14 (by decide) (fun c14 => ?_) (fun c14 => ?_)
      · have c14 := (nI_leI (by decide) (by omega)).mp c14
        have ho : zoutR M (zU (zU M h (.inr (6, [.ref (h + 1), .ref (h + 2), .ref (h + 3), .int (nI 0), .int (nI 0)]))) (h + 3) (.inl (E.2.1 0, 3, .inl g))) h (h + 4) := fun q hq => (zU_ne (by omega)).trans (zU_ne (by omega))
        refine z_vret C ⟨rfl, rfl, ho, ff, sf, g, (zU_ne (by omega)).trans zU_eq, (zU_ne (by omega)).trans ((zU_ne (by omega)).trans h1), (zU_ne (by omega)).trans ((zU_ne (by omega)).trans h2), zU_eq, ⟨by simp, rfl, by simp⟩, hff, fun j s hs => by simp at hs, fun j hj => ⟨hg j (by omega), by simp⟩, fun j x hx => by simp at hx, fun j hj => ?_⟩ d_H_clear_30
        obtain ⟨a1, a2, a3, a4, a5⟩ := hal j hj
        exact ⟨a1, a2, a3, a4, zf_oR ho a5 (by omega)⟩
      · have c14 : i < 3 := Nat.not_le.mp (fun q => c14 ((nI_leI (by decide) (by omega)).mpr q))
        refine z_aload_n C d_H_clear_17 rfl rfl ?_
        refine z_get C in_H ((zU_ne (by omega)).trans zU_eq) rfl 2 (by decide) fl_H_21 rfl rfl d_H_clear_18 ?_
        refine z_iload_n C d_H_clear_21 rfl rfl ?_
        refine z_iconst (v := nI 0) C d_H_clear_22 (by decide) ?_
        refine z_iast C zU_eq 0 rfl i (rfl) (c14) (by decide) d_H_clear_23 ?_
        refine z_world zU_uu ?_
        refine z_iinc (v := nI (i + 1)) (L' := [(0, .ref h), (1, .int (nI (i + 1)))]) C d_H_clear_24 rfl (nI_1 i) (by decide) rfl ?_
        refine z_goto (tgt := 12) C d_H_clear_27 (by decide) ?_
        exact ih (i + 1) _ (by omega) (by omega) (inv_up (F := fun _ => nI 0) hg rfl)
  show Z X E 2 _ 0 0 sz M 0 [(0, .ref h)] []
  refine z_aload_n C d_H_clear_0 rfl rfl ?_
  refine z_iconst (v := nI 0) C d_H_clear_1 (by decide) ?_
  refine z_put C in_H ty_H tok_H nm_H h0 rfl 3 (by decide) fl_H_24 rfl rfl rfl (rfl) (rfl) (Nat.le_of_ble_eq_true rfl) d_H_clear_2 ?_
  show Z _ _ _ _ _ _ _ (zU M h (.inr (6, [.ref (h + 1), .ref (h + 2), .ref (h + 3), .int (nI 0), .int (nI sc)]))) _ _ _
  refine z_aload_n C d_H_clear_5 rfl rfl ?_
  refine z_iconst (v := nI 0) C d_H_clear_6 (by decide) ?_
  refine z_put C in_H ty_H tok_H nm_H zU_eq rfl 4 (by decide) fl_H_28 rfl rfl rfl (rfl) (rfl) (Nat.le_of_ble_eq_true rfl) d_H_clear_7 ?_
  show Z _ _ _ _ _ _ _ (zU (zU M h (.inr (6, [.ref (h + 1), .ref (h + 2), .ref (h + 3), .int (nI 0), .int (nI sc)]))) h (.inr (6, [.ref (h + 1), .ref (h + 2), .ref (h + 3), .int (nI 0), .int (nI 0)]))) _ _ _
  refine z_world zU_uu ?_
  refine z_iconst (v := nI 0) C d_H_clear_10 (by decide) ?_
  refine z_istore_n (L' := [(0, .ref h), (1, .int (nI 0))]) C d_H_clear_11 rfl (by decide) rfl ?_
  refine z_world (zU_id (a := h + 3) (e := .inl (E.2.1 0, 3, .inl nf)) ((zU_ne (by omega)).trans h3)).symm ?_
  exact loop 4 0 nf (by omega) (by omega) (fun j hj => absurd hj (by omega))
