/-! a step of the reader moves its place by no more than ten -/
theorem r_num_i (cs : List Nat) (m x : Nat) (o a b : Nat → Nat) (n i k w y h : Nat) (ps : List (Nat × Int)) (t : Int32) : ∃ k', r_num cs m x (o, a, b, n, i, k, w, y, h, ps, t) = (o, a, b, n, (rnum cs x m 0 i).2, k', w, y, h, ps, t) := ⟨_, rfl⟩
theorem r_fp_i (o a b : Nat → Nat) (n i k w y h : Nat) (ps : List (Nat × Int)) (t : Int32) : ∃ b' ps', r_fp (o, a, b, n, i, k, w, y, h, ps, t) = (o, a, b', n, i, k, w, y, h, ps', t) := by
  by_cases q : b n = 0
  · exact ⟨_, _, if_pos q⟩
  · exact ⟨_, _, if_neg q⟩
theorem r_fs_i (o a b : Nat → Nat) (n i k w y h : Nat) (ps : List (Nat × Int)) (t : Int32) : ∃ a' ps', r_fs (o, a, b, n, i, k, w, y, h, ps, t) = (o, a', b, n, i, k, w, y, h, ps', t) := by
  by_cases q : a n = 0
  · exact ⟨_, _, if_pos q⟩
  · exact ⟨_, _, if_neg q⟩
theorem r_ft_i (o a b : Nat → Nat) (n i k w y h : Nat) (ps : List (Nat × Int)) (t : Int32) : ∃ a' b' ps', r_ft (o, a, b, n, i, k, w, y, h, ps, t) = (o, a', b', n, i, k, w, y, h, ps', t) := by
  obtain ⟨b', ps', e⟩ := r_fp_i o a b n i k w y h ps t
  obtain ⟨a', ps2, e2⟩ := r_fs_i o a b' n i k w y h ps' t
  exact ⟨a', b', ps2, by unfold r_ft; rw [e, e2]⟩
theorem r_op_i (cs : List Nat) (c : Nat) (o a b : Nat → Nat) (n i k w y h : Nat) (ps : List (Nat × Int)) (t : Int32) : (r_op cs c (o, a, b, n, i, k, w, y, h, ps, t)).2.2.2.2.1 ≤ i + 10 := by
  simp only [r_op]
  split
  · show i ≤ _; omega
  · split
    · split
      · show i + 1 ≤ _; omega
      · show i ≤ _; omega
    · split
      · show i + 1 + 1 ≤ _; omega
      · show i + 1 ≤ _; omega
theorem r_ex_i (cs : List Nat) (o a b : Nat → Nat) (n i k w y h : Nat) (ps : List (Nat × Int)) (t : Int32) : (r_ex cs (o, a, b, n, i, k, w, y, h, ps, t)).2.2.2.2.1 ≤ i + 5 := by
  have h1 := rnum_le cs 12 2 0 (i + 1)
  have h2 := rnum_le cs 12 2 0 i
  simp only [r_ex]
  split
  · show (rnum cs 12 2 0 (i + 1)).2 ≤ _; omega
  · show (rnum cs 12 2 0 i).2 ≤ _; omega
theorem r_bef_i (cs : List Nat) (c : Nat) (o a b : Nat → Nat) (n i k w y h : Nat) (ps : List (Nat × Int)) (t : Int32) : (r_bef cs c (o, a, b, n, i, k, w, y, h, ps, t)).2.2.2.2.1 ≤ i + 10 := by
  have h1 := rnum_le cs 99999 5 0 i
  have h2 := rnum_le cs 99 2 0 (i + 1)
  simp only [r_bef]
  split
  · show i + 1 ≤ _; omega
  split
  · show (rnum cs 99999 5 0 i).2 ≤ _; omega
  split
  · show (rnum cs 99 2 0 (i + 1)).2 ≤ _; omega
  split
  · show i + 1 ≤ _; omega
  split
  · show i + 1 ≤ _; omega
  split
  · exact r_op_i cs c o a b n i k w y h ps t
  · show i ≤ _; omega
theorem r_aft_i (cs : List Nat) (c : Nat) (o a b : Nat → Nat) (n i k w y h : Nat) (ps : List (Nat × Int)) (t : Int32) : (r_aft cs c (o, a, b, n, i, k, w, y, h, ps, t)).2.2.2.2.1 ≤ i + 10 := by
  simp only [r_aft]
  split
  · have := r_ex_i cs o a b n (i + 1) k w y h ps t; omega
  split
  · obtain ⟨b', ps', e⟩ := r_fp_i o a b n i k w y h ps t
    rw [e]; show i + 1 ≤ _; omega
  split
  · obtain ⟨a', b', ps', e⟩ := r_ft_i o a b n i k w y h ps t
    rw [e]; show i + 1 ≤ _; omega
  split
  · obtain ⟨a', b', ps', e⟩ := r_ft_i o a b n (i + 1) k w y h ps t
    rw [e]; show i + 1 ≤ _; omega
  split
  · obtain ⟨a', b', ps', e⟩ := r_ft_i o a b n (i + 1) k w y h ps t
    unfold r_cl; rw [e]; show i + 1 ≤ _; omega
  · show i ≤ _; omega
theorem r_step_i (cs : List Nat) (s : RS) : (r_step cs s).2.2.2.2.1 ≤ s.2.2.2.2.1 + 10 := by
  obtain ⟨o, a, b, n, i, k, w, y, h, ps, t⟩ := s
  simp only [r_step]
  split
  · exact r_bef_i ..
  · exact r_aft_i ..
