set_option maxHeartbeats 4000000 in
/-- Line.add -/
theorem l_add (E : zE) (l : Launch) (sz : Nat) (M : zM) {p : Nat} {cs : List Nat} (hL : zln E M p cs) (c : Nat) (hc1 : c < 128) : zMet E l y_L_add c_L_add 2 (some .boolean) { frames := 0, cells := 0, slots := 0, locals := 0 } 0 0 [.ref p, .int (nI c)] sz M (fun v s M' => sz = s ∧ zoutR M M' p (p + 2) ∧ ((cs.length < 32 ∧ some (.int 1) = v ∧ zln E M' p (cs ++ [c])) ∨ (cs.length = 32 ∧ some (.int 0) = v ∧ M = M'))) := by
  obtain ⟨f, h0, h1, hlen, hf, hc⟩ := hL
  refine zMet.ofZ (by decide) (Nat.le_of_ble_eq_true rfl) ?_
  intro X hl hini C
  show Z X E 2 _ 0 0 sz M 0 [(0, .ref p), (1, .int (nI c))] []
  refine z_aload_n C d_L_add_0 rfl rfl ?_
  refine z_get C in_L h0 rfl 1 (by decide) fl_L_15 rfl rfl d_L_add_1 ?_
  refine z_bipush (v := nI 32) C d_L_add_4 (by decide) ?_
  refine z_icmp_lt (tgt := 11) C d_L_add_6 (by decide) (fun c6 => ?_) (fun c6 => ?_)
  · have c6 := (nI_ltI (by omega) (by decide)).mp c6
    refine z_aload_n C d_L_add_11 rfl rfl ?_
    refine z_get C in_L h0 rfl 0 (by decide) fl_L_9 rfl rfl d_L_add_12 ?_
    refine z_aload_n C d_L_add_15 rfl rfl ?_
    refine z_get C in_L h0 rfl 1 (by decide) fl_L_15 rfl rfl d_L_add_16 ?_
    refine z_iload_n C d_L_add_19 rfl rfl ?_
    refine z_cast C h1 1 rfl cs.length (rfl) (c6) (by decide) (by have := (pk_charN (q := c) (by omega)).1; unfold vp_nar; rw [this]) d_L_add_20 ?_
    refine z_aload_n C d_L_add_21 rfl rfl ?_
    refine z_dup C d_L_add_22 rfl ?_
    refine z_get C in_L ((zU_ne (by omega)).trans h0) rfl 1 (by decide) fl_L_15 rfl rfl d_L_add_23 ?_
    refine z_iconst (v := 1) C d_L_add_26 (by decide) ?_
    refine z_iadd C d_L_add_27 ?_
    refine z_top (y := nI (cs.length + 1)) (nI_1 _) ?_
    refine z_put C in_L ty_L tok_L nm_L ((zU_ne (by omega)).trans h0) rfl 1 (by decide) fl_L_15 rfl rfl rfl (rfl) (rfl) (Nat.le_of_ble_eq_true rfl) d_L_add_28 ?_
    show Z _ _ _ _ _ _ _ (zU (zU M (p + 1) (.inl (E.2.1 1, 32, .inl (upd f cs.length (nI c))))) p (.inr (2, [.ref (p + 1), .int (nI (cs.length + 1))]))) _ _ _
    refine z_iconst (v := 1) C d_L_add_31 (by decide) ?_
    refine z_zret C rfl ⟨rfl, fun q hq => (zU_ne (by omega)).trans (zU_ne (by omega)), Or.inl ⟨c6, rfl, upd f cs.length (nI c), ?_, (zU_ne (by omega)).trans zU_eq, by simp; omega, fun i x hx => ?_, fun x hx => ?_⟩⟩ d_L_add_32
    · rw [List.length_append]; exact zU_eq
    · rcases ap_get hx with ⟨q1, q2⟩ | ⟨q1, q2⟩
      · rw [upd_ne (by omega)]; exact hf i x q1
      · rw [q1, upd_eq, q2]
    · rcases List.mem_append.mp hx with q | q
      · exact hc x q
      · rw [List.mem_singleton.mp q]; exact hc1
  · have c6 : cs.length = 32 := by
      rcases Nat.lt_or_ge cs.length 32 with q | q
      · exact absurd ((nI_ltI (by omega) (by decide)).mpr q) c6
      · omega
    refine z_iconst (v := 0) C d_L_add_9 (by decide) ?_
    exact z_zret C rfl ⟨rfl, zoutR_rf, Or.inr ⟨c6, rfl, rfl⟩⟩ d_L_add_10
set_option maxHeartbeats 4000000 in
/-- Line.dropLast -/
theorem l_dropLast (E : zE) (l : Launch) (sz : Nat) (M : zM) {p : Nat} {cs : List Nat} (hL : zln E M p cs) : zMet E l y_L_dropLast c_L_dropLast 1 (some .boolean) { frames := 0, cells := 0, slots := 0, locals := 0 } 0 0 [.ref p] sz M (fun v s M' => sz = s ∧ zoutR M M' p (p + 2) ∧ ((cs = [] ∧ some (.int 0) = v ∧ M = M') ∨ (cs ≠ [] ∧ some (.int 1) = v ∧ zln E M' p cs.dropLast))) := by
  obtain ⟨f, h0, h1, hlen, hf, hc⟩ := hL
  refine zMet.ofZ (by decide) (Nat.le_of_ble_eq_true rfl) ?_
  intro X hl hini C
  show Z X E 1 _ 0 0 sz M 0 [(0, .ref p)] []
  refine z_aload_n C d_L_dropLast_0 rfl rfl ?_
  refine z_get C in_L h0 rfl 1 (by decide) fl_L_15 rfl rfl d_L_dropLast_1 ?_
  refine z_if_ne (tgt := 9) C d_L_dropLast_4 (by decide) (fun c4 => ?_) (fun c4 => ?_)
  · have c4 : cs ≠ [] := fun q => c4 (by rw [q]; decide)
    have hpos : 0 < cs.length := List.length_pos_iff.mpr c4
    refine z_aload_n C d_L_dropLast_9 rfl rfl ?_
    refine z_dup C d_L_dropLast_10 rfl ?_
    refine z_get C in_L h0 rfl 1 (by decide) fl_L_15 rfl rfl d_L_dropLast_11 ?_
    refine z_iconst (v := 1) C d_L_dropLast_14 (by decide) ?_
    refine z_isub C d_L_dropLast_15 ?_
    refine z_top (y := nI (cs.length - 1)) (pk_sub (a := cs.length) (b := 1) (by omega)) ?_
    refine z_put C in_L ty_L tok_L nm_L h0 rfl 1 (by decide) fl_L_15 rfl rfl rfl (rfl) (rfl) (Nat.le_of_ble_eq_true rfl) d_L_dropLast_16 ?_
    show Z _ _ _ _ _ _ _ (zU M p (.inr (2, [.ref (p + 1), .int (nI (cs.length - 1))]))) _ _ _
    refine z_iconst (v := 1) C d_L_dropLast_19 (by decide) ?_
    refine z_zret C rfl ⟨rfl, fun q hq => zU_ne (by omega), Or.inr ⟨c4, rfl, f, ?_, (zU_ne (by omega)).trans h1, by simp; omega, fun i x hx => ?_, fun x hx => hc x (List.dropLast_subset cs hx)⟩⟩ d_L_dropLast_20
    · rw [List.length_dropLast]; exact zU_eq
    · rw [List.getElem?_dropLast] at hx
      split at hx
      · exact hf i x hx
      · cases hx
  · have c4 : cs = [] := by
      rcases Nat.eq_zero_or_pos cs.length with q | q
      · exact List.eq_nil_of_length_eq_zero q
      · exact absurd c4 (nI_ne0 q (by omega))
    refine z_iconst (v := 0) C d_L_dropLast_7 (by decide) ?_
    exact z_zret C rfl ⟨rfl, zoutR_rf, Or.inl ⟨c4, rfl, rfl⟩⟩ d_L_dropLast_8
set_option maxHeartbeats 4000000 in
/-- Line.clear -/
theorem l_clear (E : zE) (l : Launch) (sz : Nat) (M : zM) {p : Nat} {cs : List Nat} (hL : zln E M p cs) : zMet E l y_L_clear c_L_clear 1 none { frames := 0, cells := 0, slots := 0, locals := 0 } 0 0 [.ref p] sz M (fun v s M' => none = v ∧ sz = s ∧ zoutR M M' p (p + 2) ∧ zln E M' p []) := by
  obtain ⟨f, h0, h1, hlen, hf, hc⟩ := hL
  refine zMet.ofZ (by decide) (Nat.le_of_ble_eq_true rfl) ?_
  intro X hl hini C
  show Z X E 1 _ 0 0 sz M 0 [(0, .ref p)] []
  refine z_aload_n C d_L_clear_0 rfl rfl ?_
  refine z_iconst (v := nI 0) C d_L_clear_1 (by decide) ?_
  refine z_put C in_L ty_L tok_L nm_L h0 rfl 1 (by decide) fl_L_15 rfl rfl rfl (rfl) (rfl) (Nat.le_of_ble_eq_true rfl) d_L_clear_2 ?_
  show Z _ _ _ _ _ _ _ (zU M p (.inr (2, [.ref (p + 1), .int (nI 0)]))) _ _ _
  exact z_vret C ⟨rfl, rfl, fun q hq => zU_ne (by omega), f, zU_eq, (zU_ne (by omega)).trans h1, by simp, fun i x hx => by simp at hx, fun x hx => by simp at hx⟩ d_L_clear_5
set_option maxHeartbeats 4000000 in
/-- Line.at -/
theorem l_at (E : zE) (l : Launch) (sz : Nat) (M : zM) {p : Nat} {cs : List Nat} (hL : zln E M p cs) (i : Nat) (hi : i < 2 ^ 20) : zMet E l y_L_at c_L_at 2 (some .char) { frames := 0, cells := 0, slots := 0, locals := 0 } 0 0 [.ref p, .int (nI i)] sz M (zRet (some (.int (nI (cs.getD i 0)))) sz M) := by
  obtain ⟨f, h0, h1, hlen, hf, hc⟩ := hL
  refine zMet.ofZ (by decide) (Nat.le_of_ble_eq_true rfl) ?_
  intro X hl hini C
  show Z X E 2 _ 0 0 sz M 0 [(0, .ref p), (1, .int (nI i))] []
  refine z_iload_n C d_L_at_0 rfl rfl ?_
  refine z_if_lt (tgt := 21) C d_L_at_1 (by decide) (fun c_1 => absurd c_1 (nI_pos (by omega))) (fun _ => ?_)
  refine z_iload_n C d_L_at_4 rfl rfl ?_
  refine z_aload_n C d_L_at_5 rfl rfl ?_
  refine z_get C in_L h0 rfl 1 (by decide) fl_L_15 rfl rfl d_L_at_6 ?_
  refine z_icmp_ge (tgt := 21) C d_L_at_9 (by decide) (fun c9 => ?_) (fun c9 => ?_)
  · have c9 := (nI_leI (by omega) (by omega)).mp c9
    have e : cs.getD i 0 = 0 := by
      rw [List.getD_eq_getElem?_getD, List.getElem?_eq_none c9]; rfl
    refine z_iconst (v := 0) C d_L_at_21 (by decide) ?_
    exact z_zret C rfl ⟨by rw [e]; rfl, rfl, rfl⟩ d_L_at_22
  · have c9 : i < cs.length := Nat.not_le.mp (fun q => c9 ((nI_leI (by omega) (by omega)).mpr q))
    have hx : cs[i]? = some (cs.getD i 0) := by
      rw [List.getD_eq_getElem?_getD, List.getElem?_eq_getElem c9]; rfl
    have hl9 := hc _ (List.mem_of_getElem? hx)
    refine z_aload_n C d_L_at_12 rfl rfl ?_
    refine z_get C in_L h0 rfl 0 (by decide) fl_L_9 rfl rfl d_L_at_13 ?_
    refine z_iload_n C d_L_at_16 rfl rfl ?_
    refine z_cald C h1 1 rfl i (rfl) (by omega) (by decide) d_L_at_17 ?_
    refine z_top (y := nI (cs.getD i 0)) (hf i _ hx) ?_
    refine z_goto (tgt := 22) C d_L_at_18 (by decide) ?_
    exact z_zret C (pk_charN (by omega)).1 ⟨rfl, rfl, rfl⟩ d_L_at_22
set_option maxHeartbeats 4000000 in
/-- Program.clear -/
theorem g_clear (E : zE) (l : Launch) (sz : Nat) (M : zM) {g : Nat} {ps : List (Int32 × Int32)} {t : Int32} (hG : zpg E M g ps t) : zMet E l y_G_clear c_G_clear 1 none { frames := 0, cells := 0, slots := 0, locals := 0 } 0 0 [.ref g] sz M (fun v s M' => none = v ∧ sz = s ∧ zoutR M M' g (g + 3) ∧ zpg E M' g [] (-1)) := by
  obtain ⟨kf, df, h0, h1, h2, hlen, hf⟩ := hG
  refine zMet.ofZ (by decide) (Nat.le_of_ble_eq_true rfl) ?_
  intro X hl hini C
  show Z X E 1 _ 0 0 sz M 0 [(0, .ref g)] []
  refine z_aload_n C d_G_clear_0 rfl rfl ?_
  refine z_iconst (v := nI 0) C d_G_clear_1 (by decide) ?_
  refine z_put C in_G ty_G tok_G nm_G h0 rfl 2 (by decide) fl_G_18 rfl rfl rfl (rfl) (rfl) (Nat.le_of_ble_eq_true rfl) d_G_clear_2 ?_
  show Z _ _ _ _ _ _ _ (zU M g (.inr (4, [.ref (g + 1), .ref (g + 2), .int (nI 0), .int t]))) _ _ _
  refine z_aload_n C d_G_clear_5 rfl rfl ?_
  refine z_iconst (v := (-1)) C d_G_clear_6 (by decide) ?_
  refine z_put C in_G ty_G tok_G nm_G zU_eq rfl 3 (by decide) fl_G_22 rfl rfl rfl (rfl) (rfl) (Nat.le_of_ble_eq_true rfl) d_G_clear_7 ?_
  show Z _ _ _ _ _ _ _ (zU (zU M g (.inr (4, [.ref (g + 1), .ref (g + 2), .int (nI 0), .int t]))) g (.inr (4, [.ref (g + 1), .ref (g + 2), .int (nI 0), .int (-1)]))) _ _ _
  refine z_world zU_uu ?_
  exact z_vret C ⟨rfl, rfl, fun q hq => zU_ne (by omega), kf, df, zU_eq, (zU_ne (by omega)).trans h1, (zU_ne (by omega)).trans h2, by simp, fun i x hx => by simp at hx⟩ d_G_clear_10
set_option maxHeartbeats 4000000 in
/-- Program.add -/
theorem g_add (E : zE) (l : Launch) (sz : Nat) (M : zM) {g : Nat} {ps : List (Int32 × Int32)} {t : Int32} (hG : zpg E M g ps t) (x y : Int32) (hl : ps.length < 32) : zMet E l y_G_add c_G_add 3 none { frames := 0, cells := 0, slots := 0, locals := 0 } 0 0 [.ref g, .int x, .int y] sz M (fun v s M' => none = v ∧ sz = s ∧ zoutR M M' g (g + 3) ∧ zpg E M' g (ps ++ [(x, y)]) t) := by
  obtain ⟨kf, df, h0, h1, h2, hlen, hf⟩ := hG
  refine zMet.ofZ (by decide) (Nat.le_of_ble_eq_true rfl) ?_
  intro X hl hini C
  show Z X E 3 _ 0 0 sz M 0 [(0, .ref g), (1, .int x), (2, .int y)] []
  refine z_aload_n C d_G_add_0 rfl rfl ?_
  refine z_get C in_G h0 rfl 2 (by decide) fl_G_18 rfl rfl d_G_add_1 ?_
  refine z_bipush (v := nI 32) C d_G_add_4 (by decide) ?_
  refine z_icmp_ge (tgt := 39) C d_G_add_6 (by decide) (fun c_6 => absurd c_6 (fun q => absurd ((nI_leI (by decide) (by omega)).mp q) (by omega))) (fun _ => ?_)
  refine z_aload_n C d_G_add_9 rfl rfl ?_
  refine z_get C in_G h0 rfl 0 (by decide) fl_G_9 rfl rfl d_G_add_10 ?_
  refine z_aload_n C d_G_add_13 rfl rfl ?_
  refine z_get C in_G h0 rfl 2 (by decide) fl_G_18 rfl rfl d_G_add_14 ?_
  refine z_iload_n C d_G_add_17 rfl rfl ?_
  refine z_iast C h1 0 rfl ps.length (rfl) (by omega) (by decide) d_G_add_18 ?_
  refine z_aload_n C d_G_add_19 rfl rfl ?_
  refine z_get C in_G ((zU_ne (by omega)).trans h0) rfl 1 (by decide) fl_G_15 rfl rfl d_G_add_20 ?_
  refine z_aload_n C d_G_add_23 rfl rfl ?_
  refine z_get C in_G ((zU_ne (by omega)).trans h0) rfl 2 (by decide) fl_G_18 rfl rfl d_G_add_24 ?_
  refine z_iload_n C d_G_add_27 rfl rfl ?_
  refine z_iast C ((zU_ne (by omega)).trans h2) 0 rfl ps.length (rfl) (by omega) (by decide) d_G_add_28 ?_
  refine z_aload_n C d_G_add_29 rfl rfl ?_
  refine z_dup C d_G_add_30 rfl ?_
  refine z_get C in_G ((zU_ne (by omega)).trans ((zU_ne (by omega)).trans h0)) rfl 2 (by decide) fl_G_18 rfl rfl d_G_add_31 ?_
  refine z_iconst (v := 1) C d_G_add_34 (by decide) ?_
  refine z_iadd C d_G_add_35 ?_
  refine z_top (y := nI (ps.length + 1)) (nI_1 _) ?_
  refine z_put C in_G ty_G tok_G nm_G ((zU_ne (by omega)).trans ((zU_ne (by omega)).trans h0)) rfl 2 (by decide) fl_G_18 rfl rfl rfl (rfl) (rfl) (Nat.le_of_ble_eq_true rfl) d_G_add_36 ?_
  show Z _ _ _ _ _ _ _ (zU (zU (zU M (g + 1) (.inl (E.2.1 0, 32, .inl (upd kf ps.length x)))) (g + 2) (.inl (E.2.1 0, 32, .inl (upd df ps.length y)))) g (.inr (4, [.ref (g + 1), .ref (g + 2), .int (nI (ps.length + 1)), .int t]))) _ _ _
  refine z_vret C ⟨rfl, rfl, fun q hq => (zU_ne (by omega)).trans ((zU_ne (by omega)).trans (zU_ne (by omega))), upd kf ps.length x, upd df ps.length y, ?_, (zU_ne (by omega)).trans ((zU_ne (by omega)).trans zU_eq), (zU_ne (by omega)).trans zU_eq, by simp; omega, fun i z hz => ?_⟩ d_G_add_39
  · rw [List.length_append]; exact zU_eq
  · rcases ap_get hz with ⟨q1, q2⟩ | ⟨q1, q2⟩
    · rw [upd_ne (by omega), upd_ne (by omega)]; exact hf i z q1
    · rw [q1, upd_eq, upd_eq, ← q2]; exact ⟨rfl, rfl⟩
set_option maxHeartbeats 4000000 in
/-- Program.loads -/
theorem g_loads (E : zE) (l : Launch) (sz : Nat) (M : zM) (n : Nat) (hn : n < 100) : zMet E l y_G_loads c_G_loads 1 (some .boolean) { frames := 0, cells := 0, slots := 0, locals := 0 } 0 0 [.int (nI n)] sz M (zRet (some (.int (if n ≤ 4 then 1 else 0))) sz M) := by
  refine zMet.ofZ (by decide) (Nat.le_of_ble_eq_true rfl) ?_
  intro X hl hini C
  show Z X E 1 _ 0 0 sz M 0 [(0, .int (nI n))] []
  refine z_iload_n C d_G_loads_0 rfl rfl ?_
  refine z_iconst (v := nI 4) C d_G_loads_1 (by decide) ?_
  refine z_icmp_gt (tgt := 9) C d_G_loads_2 (by decide) (fun c2 => ?_) (fun c2 => ?_)
  · have c2 := (nI_ltI (by decide) (by omega)).mp c2
    refine z_iconst (v := 0) C d_G_loads_9 (by decide) ?_
    exact z_zret C rfl ⟨by rw [if_neg (by omega)], rfl, rfl⟩ d_G_loads_10
  · have c2 : n ≤ 4 := Nat.not_lt.mp (fun q => c2 ((nI_ltI (by decide) (by omega)).mpr q))
    refine z_iconst (v := 1) C d_G_loads_5 (by decide) ?_
    refine z_goto (tgt := 10) C d_G_loads_6 (by decide) ?_
    exact z_zret C rfl ⟨by rw [if_pos c2], rfl, rfl⟩ d_G_loads_10
set_option maxHeartbeats 4000000 in
/-- Program.hasTwoSides -/
theorem g_two (E : zE) (l : Launch) (sz : Nat) (M : zM) (n : Nat) (hn : n < 100) : zMet E l y_G_hasTwoSides c_G_hasTwoSides 1 (some .boolean) { frames := 0, cells := 0, slots := 0, locals := 0 } 0 0 [.int (nI n)] sz M (zRet (some (.int (if 8 ≤ n then 1 else 0))) sz M) := by
  refine zMet.ofZ (by decide) (Nat.le_of_ble_eq_true rfl) ?_
  intro X hl hini C
  show Z X E 1 _ 0 0 sz M 0 [(0, .int (nI n))] []
  refine z_iload_n C d_G_hasTwoSides_0 rfl rfl ?_
  refine z_bipush (v := nI 8) C d_G_hasTwoSides_1 (by decide) ?_
  refine z_icmp_lt (tgt := 10) C d_G_hasTwoSides_3 (by decide) (fun c3 => ?_) (fun c3 => ?_)
  · have c3 := (nI_ltI (by omega) (by decide)).mp c3
    refine z_iconst (v := 0) C d_G_hasTwoSides_10 (by decide) ?_
    exact z_zret C rfl ⟨by rw [if_neg (by omega)], rfl, rfl⟩ d_G_hasTwoSides_11
  · have c3 : 8 ≤ n := Nat.not_lt.mp (fun q => c3 ((nI_ltI (by omega) (by decide)).mpr q))
    refine z_iconst (v := 1) C d_G_hasTwoSides_6 (by decide) ?_
    refine z_goto (tgt := 11) C d_G_hasTwoSides_7 (by decide) ?_
    exact z_zret C rfl ⟨by rw [if_pos c3], rfl, rfl⟩ d_G_hasTwoSides_11
