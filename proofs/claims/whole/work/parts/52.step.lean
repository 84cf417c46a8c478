theorem k_op2 (E : zE) (l : Launch) (sz : Nat) (M : zM) {k : Nat} {ys : List (PS × PS)} {l1 r1 : PS × PS} (H : zwk E M k (ys ++ [l1, r1])) (il : isform l1.1 l1.2) (ir : isform r1.1 r1.2) (kd : Nat) (h8 : 8 ≤ kd) (h12 : kd ≤ 12) (y : Int32) : zMet E l y_K_operate c_K_operate 7 (some .int) { frames := 4, cells := 0, slots := 0, locals := 95 } 0 0 [.ref k, .int (nI kd), .int y] sz M (stepPost E M sz k ys (op2 kd l1 r1)) := by
  obtain ⟨i1, h1⟩ := isf_ne il
  obtain ⟨i2, h2⟩ := isf_ne ir
  obtain ⟨i3, h3⟩ := mul_ne il.2.1 ir.2.1 ⟨i1, h1⟩ ⟨i2, h2⟩
  rcases (show kd = 8 ∨ kd = 9 ∨ kd = 10 ∨ kd = 11 ∨ kd = 12 by omega) with rfl | rfl | rfl | rfl | rfl
  · exact (k_add E l sz M H il ir y).mono (fun v s M' h => ⟨h.1, h.2.1, setlR_K h3 h.2.2⟩)
  · exact (k_sub E l sz M H il ir y).mono (fun v s M' h => ⟨h.1, h.2.1, setlR_K h3 h.2.2⟩)
  · exact (k_mul E l sz M H il ir y).mono (fun v s M' h => ⟨h.1, h.2.1, setlR_K h3 h.2.2⟩)
  · refine (k_div E l sz M H il ir y).mono (fun v s M' h => ⟨h.1, h.2.1, ?_⟩)
    show resK E M' k v ys (oDiv l1 r1)
    unfold oDiv
    rcases h.2.2 with ⟨a, b, c⟩ | ⟨a, b⟩
    · rw [pif_t a]; exact ⟨b, by decide, c⟩
    · obtain ⟨i4, h4⟩ := mul_ne il.2.1 ir.1 ⟨i1, h1⟩ a
      rw [pif_f (fun q => a.elim (fun i e => e (q i)))]; exact setlR_K h4 b
  · refine (k_comp E l sz M H il ir y).mono (fun v s M' h => ⟨h.1, h.2.1, ?_⟩)
    show resK E M' k v ys (oComp l1 r1)
    unfold oComp
    obtain ⟨a, b, ha, hb, h⟩ := h.2.2
    rw [hgt_eq ha, hgt_eq hb]
    rcases h with ⟨q, e, c⟩ | ⟨q, z, e, c⟩ | ⟨q, z, c⟩
    · rw [pif_t q]; exact ⟨e, by decide, c⟩
    · rw [pif_f (by omega), pif_t z]; exact ⟨e, by decide, c⟩
    · obtain ⟨i4, h4⟩ := z
      rw [pif_f (by omega), pif_f (fun q => h4 (q i4))]; exact setlR_K h4 c
theorem k_op1 (E : zE) (l : Launch) (sz : Nat) (M : zM) {k : Nat} {ys : List (PS × PS)} {l1 : PS × PS} (H : zwk E M k (ys ++ [l1])) (il : isform l1.1 l1.2) (kd : Nat) (h8 : 5 ≤ kd) (h12 : kd ≤ 7) (e : Int) (he : -12 ≤ e ∧ e ≤ 12) : zMet E l y_K_operate c_K_operate 7 (some .int) { frames := 4, cells := 0, slots := 0, locals := 95 } 0 0 [.ref k, .int (nI kd), .int (Int32.ofInt e)] sz M (stepPost E M sz k ys (op1 kd e l1)) := by
  obtain ⟨i1, h1⟩ := isf_ne il
  rcases (show kd = 5 ∨ kd = 6 ∨ kd = 7 by omega) with rfl | rfl | rfl
  · show zMet _ _ _ _ _ _ _ _ _ _ _ _ (stepPost E M sz k ys (if 0 ≤ e then oPowP e.toNat l1 else oPowN (-e).toNat l1))
    by_cases hp : 0 ≤ e
    · rw [if_pos hp]
      obtain ⟨t, rfl⟩ : ∃ t : Nat, e = (t : Int) := ⟨e.toNat, by omega⟩
      obtain ⟨i4, h4⟩ := pow_ne il.2.1 ⟨i1, h1⟩ t
      refine (k_powP E l sz M H il t (by omega)).mono (fun v s M' h => ⟨h.1, h.2.1, ?_⟩)
      show resK E M' k v ys (oPowP t l1)
      unfold oPowP
      obtain ⟨a, ha, ⟨q, e, c⟩ | ⟨q, c⟩⟩ := h.2.2
      · rw [hgt_eq ha, pif_t q]; exact ⟨e, by decide, c⟩
      · rw [hgt_eq ha, pif_f (by omega)]; exact setlR_K h4 c
    · rw [if_neg hp]
      obtain ⟨t, ht0, rfl⟩ : ∃ t : Nat, 0 < t ∧ e = -(t : Int) := ⟨(-e).toNat, by omega, by omega⟩
      have e1 : Int32.ofInt (-(t : Int)) = -nI t := by
        rw [Int32.ofInt_neg]; rfl
      rw [e1]
      refine (k_powN E l sz M H il t (by omega) ht0).mono (fun v s M' h => ⟨h.1, h.2.1, ?_⟩)
      rw [show (- -(t : Int)).toNat = t by omega]
      unfold oPowN
      rcases h.2.2 with ⟨z, e, c⟩ | ⟨z, a, ha, ⟨q, e, c⟩ | ⟨q, c⟩⟩
      · rw [pif_t z]; exact ⟨e, by decide, c⟩
      · rw [pif_f (fun q => z.elim (fun i e => e (q i))), hgt_eq ha, pif_t q]; exact ⟨e, by decide, c⟩
      · obtain ⟨i4, h4⟩ := pow_ne il.1 z t
        rw [pif_f (fun q => z.elim (fun i e => e (q i))), hgt_eq ha, pif_f (by omega)]; exact setlR_K h4 c
  · exact (k_neg E l sz M H il (Int32.ofInt e)).mono (fun v s M' h => ⟨h.1, h.2.1, setlR_K h1 h.2.2⟩)
  · obtain ⟨i4, h4⟩ := mul_ne il.2.1 il.2.1 ⟨i1, h1⟩ ⟨i1, h1⟩
    exact (k_der E l sz M H il (Int32.ofInt e)).mono (fun v s M' h => ⟨h.1, h.2.1, setlR_K h4 h.2.2⟩)
