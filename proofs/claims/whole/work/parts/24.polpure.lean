/-! pure rows for products, quotients and sums of rows -/
theorem getv {f g : Nat → Int32} {n k i : Nat} {P : PS} (hr : rep f k P) (hkn : k ≤ n) (hn : n < 1000) (hi : i < 2 ^ 20) (hg : g i = f i) : (if 0 ≤ nI i ∧ nI i ≤ tI k ∧ nI i < nI n then g (nI i).toNatClampNeg else 0) = fI (P i) := by
  by_cases h : i < k
  · rw [if_pos ⟨nI_pos' (by omega), (tI_le (by omega) (by omega)).mpr h, nI_lt (by omega) (by omega)⟩, nI_clamp (by omega), hg, hr.2.2 i h]
  · rw [if_neg (fun q => h ((tI_le (by omega) (by omega)).mp q.2.1)), hr.1 i (by omega), fI_0]
theorem tI_max {k m : Nat} (hk : k < 1000) (hm : m < 1000) : (if tI k < tI m then tI m else tI k) = tI (max k m) := by
  by_cases h : k < m
  · rw [if_pos ((tI_lt (by omega) (by omega)).mpr h), Nat.max_eq_right (by omega)]
  · rw [if_neg (fun q => h ((tI_lt (by omega) (by omega)).mp q)), Nat.max_eq_left (by omega)]
theorem tI_min {k m : Nat} (hk : k < 1000) (hm : m < 1000) (h : k ≤ m) : (if tI m < tI k then tI m else tI k) = tI k := if_neg (fun q => absurd ((tI_lt (by omega) (by omega)).mp q) (by omega))
theorem tI_add {k m : Nat} (hk : 1 ≤ k) (hm : 1 ≤ m) : tI k + tI m = tI (k + m - 1) := by
  obtain ⟨x, rfl⟩ : ∃ x, k = x + 1 := ⟨k - 1, by omega⟩
  obtain ⟨y, rfl⟩ : ∃ y, m = y + 1 := ⟨m - 1, by omega⟩
  rw [show x + 1 + (y + 1) - 1 = (x + y) + 1 by omega, tI_s, tI_s, tI_s, nI_add]
theorem tI_subn {k m : Nat} (h : m < k) : tI k - nI m = tI (k - m) := by
  obtain ⟨x, rfl⟩ : ∃ x, k = m + x + 1 := ⟨k - m - 1, by omega⟩
  rw [show m + x + 1 - m = x + 1 by omega, tI_s, tI_s, pk_sub (by omega), show m + x - m = x by omega]
/-- the first places alone -/
def ps_tr (B : PS) (i : Nat) : PS := fun n => if n < i then B n else 0
def pacc (B C : PS) (i j : Nat) : PS := ps_add (ps_mul (ps_tr B i) C) (ps_mul (mono (B i) i) (ps_tr C j))
theorem ps_tr0 (B : PS) : ps_tr B 0 = ps_0 := by
  funext n
  simp [ps_tr, ps_0]
theorem ps_trs (B : PS) (i : Nat) : ps_tr B (i + 1) = ps_add (ps_tr B i) (mono (B i) i) := by
  funext n
  simp only [ps_tr, ps_add, mono]
  rcases Nat.lt_trichotomy n i with h | h | h
  · rw [if_pos (by omega), if_pos h, if_neg (by omega)]; grind
  · subst h; rw [if_pos (by omega), if_neg (by omega), if_pos rfl]; grind
  · rw [if_neg (by omega), if_neg (by omega), if_neg (by omega)]; grind
theorem ps_tre {B : PS} {k : Nat} (h : ∀ i, k ≤ i → B i = 0) : ps_tr B k = B := by
  funext n
  simp only [ps_tr]
  by_cases hn : n < k
  · rw [if_pos hn]
  · rw [if_neg hn, h n (by omega)]
theorem ps_mul0r (f : PS) : ps_mul f ps_0 = ps_0 := by
  funext n
  exact (ps_m_cm (f := f)).trans (ps_m0 (fun _ => rfl))
theorem ps_mul0l (f : PS) : ps_mul ps_0 f = ps_0 := by
  funext n
  exact ps_m0 (fun _ => rfl)
theorem ps_add0 (f : PS) : ps_add f ps_0 = f := by
  funext n
  simp only [ps_add, ps_0]
  grind
theorem pacc_0 (B C : PS) : pacc B C 0 0 = ps_0 := by
  simp only [pacc, ps_tr0, ps_mul0r, ps_mul0l, ps_add0]
theorem pacc_step (B C : PS) (i j t : Nat) : pacc B C i (j + 1) t = if t = i + j then pacc B C i j t + B i * C j else pacc B C i j t := by
  simp only [pacc, ps_add]
  rw [mono_mul, mono_mul]
  by_cases h : t < i
  · rw [if_pos h, if_pos h, if_neg (by omega)]
  · rw [if_neg h, if_neg h]
    simp only [ps_tr]
    rcases Nat.lt_trichotomy (t - i) j with q | q | q
    · rw [if_pos (by omega), if_pos q, if_neg (by omega)]
    · have ht : t = i + j := by omega
      subst ht
      rw [show i + j - i = j by omega, if_pos (show j < j + 1 by omega), if_neg (show ¬ j < j by omega), if_pos (show i + j = i + j from rfl)]; grind
    · rw [if_neg (by omega), if_neg (by omega), if_neg (by omega)]
theorem pacc_next {B C : PS} {kc : Nat} (hC : ∀ j, kc ≤ j → C j = 0) (i : Nat) : pacc B C (i + 1) 0 = pacc B C i kc := by
  simp only [pacc, ps_tr0, ps_mul0r, ps_add0, ps_trs, ps_tre hC]
  generalize ps_tr B i = a
  generalize mono (B i) i = b
  letI := ps_ring
  show (a + b) * C = a * C + b * C
  grind
theorem pacc_skip {B C : PS} {i : Nat} (h : B i = 0) : pacc B C (i + 1) 0 = pacc B C i 0 := by
  have e : mono (B i) i = ps_0 := by
    funext n
    simp [mono, ps_0, h]
  simp only [pacc, ps_tr0, ps_mul0r, ps_add0, ps_trs, e]
theorem pacc_end {B C : PS} {kb : Nat} (hB : ∀ i, kb ≤ i → B i = 0) : pacc B C kb 0 = ps_mul B C := by
  simp only [pacc, ps_tr0, ps_mul0r, ps_add0, ps_tre hB]
theorem fI_msub (x y z : FF) : fI x + (10007 - fI y) * fI z - (fI x + (10007 - fI y) * fI z) / 10007 * 10007 = fI (x - y * z) := by
  have hx := x.isLt
  have hy := y.isLt
  have hz := z.isLt
  have e1 : (10007 : Int32) - fI y = nI (10007 - y.val) := by
    show nI 10007 - nI y.val = _
    rw [pk_sub (by omega)]
  have hb : (10007 - y.val) * z.val ≤ 10007 * 10006 := Nat.mul_le_mul (by omega) (Nat.le_of_lt_succ hz)
  rw [e1]
  show nI x.val + nI (10007 - y.val) * nI z.val - (nI x.val + nI (10007 - y.val) * nI z.val) / 10007 * 10007 = nI (x - y * z).val
  rw [pk_mul, nI_add, nI_mod (by omega)]
  congr 1
  have e2 : x - y * z = x + (Fin.ofNat 10007 (10007 - y.val)) * z := by
    have e3 : (Fin.ofNat 10007 (10007 - y.val) : FF) = - y := by
      apply Fin.ext
      rw [Fin.neg_def]
      rfl
    rw [e3]
    grind
  rw [e2, ff_madd, ff_of]
  generalize 10007 - y.val = w
  rw [Nat.add_mod x.val (w * z.val), Nat.mul_mod w z.val, Nat.add_mod x.val (w % 10007 * z.val), Nat.mul_mod (w % 10007) z.val, Nat.mod_mod]
