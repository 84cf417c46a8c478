set_option maxHeartbeats 4000000 in
/-- Polynomial.isZero -/
theorem q_P_isZero (E : zE) (l : Launch) (sz : Nat) (M : zM) (a : Nat) {r : Nat} {t : Int32} (h0 : M a = some (.inr (3, [.ref r, .int t]))) : zMet E l y_P_isZero c_P_isZero 1 (some .boolean) { frames := 0, cells := 0, slots := 0, locals := 0 } 0 0 [.ref a] sz M (zRet (some (.int (if t < 0 then 1 else 0))) sz M) := by
  refine zMet.ofZ (by decide) (Nat.le_of_ble_eq_true rfl) ?_
  intro X hl hini C
  show Z X E 1 _ 0 0 sz M 0 [(0, .ref a)] []
  refine z_aload_n C d_P_isZero_0 rfl rfl ?_
  refine z_get C in_P h0 rfl 1 (by decide) fl_P_9 rfl rfl d_P_isZero_1 ?_
  refine z_if_ge (tgt := 11) C d_P_isZero_4 (by decide) (fun c4 => ?_) (fun c4 => ?_)
  · refine z_iconst (v := 0) C d_P_isZero_11 (by decide) ?_
    exact z_zret C rfl ⟨by rw [if_neg (Int32.not_lt.mpr c4)], rfl, rfl⟩ d_P_isZero_12
  · refine z_iconst (v := 1) C d_P_isZero_7 (by decide) ?_
    refine z_goto (tgt := 12) C d_P_isZero_8 (by decide) ?_
    exact z_zret C rfl ⟨by rw [if_pos (Int32.not_le.mp c4)], rfl, rfl⟩ d_P_isZero_12
set_option maxHeartbeats 4000000 in
/-- Polynomial.get -/
theorem q_P_get (E : zE) (l : Launch) (sz : Nat) (M : zM) (a : Nat) (x : Int32) {r : Nat} {t : Int32} (h0 : M a = some (.inr (3, [.ref r, .int t]))) {n : Nat} {f : Nat → Int32} (h1 : M r = some (.inl (E.2.1 0, n, .inl f))) (hn : n < 2 ^ 30) : zMet E l y_P_get c_P_get 2 (some .int) { frames := 0, cells := 0, slots := 0, locals := 0 } 0 0 [.ref a, .int x] sz M (zRet (some (.int (if 0 ≤ x ∧ x ≤ t ∧ x < nI n then f x.toNatClampNeg else 0))) sz M) := by
  refine zMet.ofZ (by decide) (Nat.le_of_ble_eq_true rfl) ?_
  intro X hl hini C
  show Z X E 2 _ 0 0 sz M 0 [(0, .ref a), (1, .int x)] []
  refine z_iload_n C d_P_get_0 rfl rfl ?_
  refine z_if_lt (tgt := 30) C d_P_get_1 (by decide) (fun c1 => ?_) (fun c1 => ?_)
  · have e : ¬ (0 ≤ x ∧ x ≤ t ∧ x < nI n) := fun q => absurd c1 (Int32.not_lt.mpr q.1)
    refine z_iconst (v := 0) C d_P_get_30 (by decide) ?_
    exact z_iret C ⟨by rw [if_neg e], rfl, rfl⟩ d_P_get_31
  · have g1 : 0 ≤ x := Int32.not_lt.mp c1
    refine z_iload_n C d_P_get_4 rfl rfl ?_
    refine z_aload_n C d_P_get_5 rfl rfl ?_
    refine z_get C in_P h0 rfl 1 (by decide) fl_P_9 rfl rfl d_P_get_6 ?_
    refine z_icmp_gt (tgt := 30) C d_P_get_9 (by decide) (fun c9 => ?_) (fun c9 => ?_)
    · have e : ¬ (0 ≤ x ∧ x ≤ t ∧ x < nI n) := fun q => absurd c9 (Int32.not_lt.mpr q.2.1)
      refine z_iconst (v := 0) C d_P_get_30 (by decide) ?_
      exact z_iret C ⟨by rw [if_neg e], rfl, rfl⟩ d_P_get_31
    · have g2 : x ≤ t := Int32.not_lt.mp c9
      refine z_iload_n C d_P_get_12 rfl rfl ?_
      refine z_aload_n C d_P_get_13 rfl rfl ?_
      refine z_get C in_P h0 rfl 0 (by decide) fl_P_15 rfl rfl d_P_get_14 ?_
      refine z_alen (v := nI n) C h1 0 rfl (rfl) d_P_get_17 ?_
      refine z_icmp_ge (tgt := 30) C d_P_get_18 (by decide) (fun c18 => ?_) (fun c18 => ?_)
      · have e : ¬ (0 ≤ x ∧ x ≤ t ∧ x < nI n) := fun q => absurd c18 (Int32.not_le.mpr q.2.2)
        refine z_iconst (v := 0) C d_P_get_30 (by decide) ?_
        exact z_iret C ⟨by rw [if_neg e], rfl, rfl⟩ d_P_get_31
      · have g3 : x < nI n := Int32.not_le.mp c18
        have e : 0 ≤ x ∧ x ≤ t ∧ x < nI n := ⟨g1, g2, g3⟩
        obtain ⟨j, hj, rfl⟩ : ∃ j : Nat, j < n ∧ x = nI j := by
          obtain ⟨j, hj, e9⟩ := nI_of (Int32.not_lt.mpr g1)
          exact ⟨j, by rw [e9] at g3; exact (nI_ltI hj (by omega)).mp g3, e9⟩
        refine z_aload_n C d_P_get_21 rfl rfl ?_
        refine z_get C in_P h0 rfl 0 (by decide) fl_P_15 rfl rfl d_P_get_22 ?_
        refine z_iload_n C d_P_get_25 rfl rfl ?_
        refine z_iald C h1 0 rfl j (rfl) (hj) (by omega) d_P_get_26 ?_
        refine z_goto (tgt := 31) C d_P_get_27 (by decide) ?_
        exact z_iret C ⟨by rw [if_pos e, nI_clamp (by omega)], rfl, rfl⟩ d_P_get_31
