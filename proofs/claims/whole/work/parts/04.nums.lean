/-! numbers of the machine against numbers modulo 10007; the top of a row -/
/-- the top of a polynomial with n places: n - 1 -/
def tI (n : Nat) : Int32 := nI n - 1
theorem tI_0 : tI 0 = -1 := by decide
theorem tI_s (n : Nat) : tI (n + 1) = nI n := nI_pred n
theorem tI_dec (n : Nat) : tI (n + 1) + Int32.ofInt (-1) = tI n := by
  rw [tI_s]
  show nI n + (-1) = nI n - 1
  exact (Int32.sub_eq_add_neg (nI n) 1).symm
theorem tI_int {n : Nat} (h : n < 2 ^ 30) : (tI n).toInt = (n : Int) - 1 := by
  have e : tI n = nI n - nI 1 := rfl
  rw [e, pk_sub_toInt h (by decide)]
  rfl
theorem tI_le {i n : Nat} (hi : i < 2 ^ 30) (hn : n < 2 ^ 30) : nI i ≤ tI n ↔ i < n := by
  rw [Int32.le_iff_toInt_le, nI_toInt (by omega), tI_int hn]; omega
theorem tI_lt0 {n : Nat} (hn : n < 2 ^ 30) : tI n < 0 ↔ n = 0 := by
  rw [Int32.lt_iff_toInt_lt, tI_int hn, Int32.toInt_zero]; omega
theorem tI_ge0 {n : Nat} (hn : n < 2 ^ 30) : 0 ≤ tI n ↔ 0 < n := by
  rw [Int32.le_iff_toInt_le, tI_int hn, Int32.toInt_zero]; omega
theorem tI_gt0 {n : Nat} (hn : n < 2 ^ 30) : 0 < tI n ↔ 1 < n := by
  rw [Int32.lt_iff_toInt_lt, tI_int hn, Int32.toInt_zero]; omega
theorem tI_le0 {n : Nat} (hn : n < 2 ^ 30) : tI n ≤ 0 ↔ n ≤ 1 := by
  rw [Int32.le_iff_toInt_le, tI_int hn, Int32.toInt_zero]; omega
theorem tI_eq {n m : Nat} (hn : n < 2 ^ 30) (hm : m < 2 ^ 30) : tI n = tI m ↔ n = m := by
  rw [← Int32.toInt_inj, tI_int hn, tI_int hm]; omega
theorem tI_lt {n m : Nat} (hn : n < 2 ^ 30) (hm : m < 2 ^ 30) : tI n < tI m ↔ n < m := by
  rw [Int32.lt_iff_toInt_lt, tI_int hn, tI_int hm]; omega
theorem tI_lel {n m : Nat} (hn : n < 2 ^ 30) (hm : m < 2 ^ 30) : tI n ≤ tI m ↔ n ≤ m := by
  rw [Int32.le_iff_toInt_le, tI_int hn, tI_int hm]; omega
theorem tI_ltn {n m : Nat} (hn : n < 2 ^ 30) (hm : m < 2 ^ 30) : nI m < tI n ↔ m + 1 < n := by
  rw [Int32.lt_iff_toInt_lt, tI_int hn, nI_toInt (by omega)]; omega
/-- a number of the field on the machine -/
def fI (a : FF) : Int32 := nI a.val
theorem fI_lt (a : FF) : a.val < 10007 := a.isLt
theorem fI_0 : fI 0 = 0 := by decide
theorem fI_1 : fI 1 = 1 := by decide
theorem fI_inj {a b : FF} : fI a = fI b ↔ a = b := by
  have ha := a.isLt
  have hb := b.isLt
  refine ⟨fun h => Fin.ext ((nI_eq (by omega) (by omega)).mp h), fun h => by rw [h]⟩
theorem fI_eq0 {a : FF} : fI a = 0 ↔ a = 0 := by rw [← fI_0, fI_inj]
/-- the rest modulo 10007 -/
theorem nI_mod {a : Nat} (h : a < 2 ^ 31) : nI a - nI a / 10007 * 10007 = nI (a % 10007) := pk_rem h (by decide) (by decide)
theorem ff_of {a : Nat} : (Fin.ofNat 10007 a : FF).val = a % 10007 := rfl
theorem ff_madd (x y z : FF) : (x + y * z).val = (x.val + y.val * z.val) % 10007 := by
  rw [Fin.val_add, Fin.val_mul, Nat.add_mod_mod]
theorem ff_mulv (y z : FF) : (y * z).val = (y.val * z.val) % 10007 := Fin.val_mul y z
theorem fI_mul (y z : FF) : fI y * fI z - fI y * fI z / 10007 * 10007 = fI (y * z) := by
  have hy := y.isLt
  have hz := z.isLt
  have hb : y.val * z.val < 2 ^ 31 := Nat.lt_of_le_of_lt (Nat.mul_le_mul (Nat.le_of_lt_succ hy) (Nat.le_of_lt_succ hz)) (by decide)
  show nI y.val * nI z.val - nI y.val * nI z.val / 10007 * 10007 = nI (y * z).val
  rw [pk_mul, nI_mod hb, ff_mulv]
theorem fI_madd (x y z : FF) : fI x + fI y * fI z - (fI x + fI y * fI z) / 10007 * 10007 = fI (x + y * z) := by
  have hx := x.isLt
  have hy := y.isLt
  have hz := z.isLt
  have hb : y.val * z.val ≤ 10006 * 10006 := Nat.mul_le_mul (Nat.le_of_lt_succ hy) (Nat.le_of_lt_succ hz)
  show nI x.val + nI y.val * nI z.val - (nI x.val + nI y.val * nI z.val) / 10007 * 10007 = nI (x + y * z).val
  rw [pk_mul, nI_add, nI_mod (by omega), ff_madd]
theorem fI_madd' (x y z : FF) : fI y * fI z + fI x - (fI y * fI z + fI x) / 10007 * 10007 = fI (y * z + x) := by
  rw [Int32.add_comm (fI y * fI z), fI_madd]
  congr 1
  grind
/-- a row of numbers holds a polynomial of n places -/
def rep (f : Nat → Int32) (n : Nat) (P : PS) : Prop := (∀ i, n ≤ i → P i = 0) ∧ (∀ m, n = m + 1 → P m ≠ 0) ∧ ∀ i, i < n → f i = fI (P i)
theorem rep_pol {f : Nat → Int32} {n : Nat} {P : PS} (h : rep f n P) : pol P := ⟨n, h.1⟩
theorem rep_dg {f : Nat → Int32} {n : Nat} {P : PS} (h : rep f (n + 1) P) : dg P n := ⟨h.2.1 n rfl, fun i hi => h.1 i hi⟩
theorem rep_un {f g : Nat → Int32} {n m : Nat} {P : PS} (h : rep f n P) (h' : rep g m P) : n = m := by
  rcases Nat.lt_trichotomy n m with q | q | q
  · exact absurd (h.1 (m - 1) (by omega)) (h'.2.1 (m - 1) (by omega))
  · exact q
  · exact absurd (h'.1 (n - 1) (by omega)) (h.2.1 (n - 1) (by omega))
/-- the number of places -/
theorem rep_ex {P : PS} (h : pol P) : ∃ n, (∀ i, n ≤ i → P i = 0) ∧ ∀ m, n = m + 1 → P m ≠ 0 := by
  rcases pol_dg h with z | ⟨n, hn⟩
  · exact ⟨0, fun i _ => z i, fun m hm => by omega⟩
  · exact ⟨n + 1, fun i hi => hn.2 i hi, fun m hm => by rw [show m = n by omega]; exact hn.1⟩
