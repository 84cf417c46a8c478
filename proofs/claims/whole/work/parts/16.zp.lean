/-! pictures of polynomials in the world: the object at a, its row at a + 1; n places, k of them used -/
def zRet (v : Option Value) (sz : Nat) (M : zM) : Option Value → Nat → zM → Prop := fun v' s M' => v = v' ∧ sz = s ∧ M = M'
theorem z_apart {M : zM} {x y : Nat} {p : ClassId × vp_A} {q : Nat × List Value} (h1 : M x = some (.inl p)) (h2 : M y = some (.inr q)) : x ≠ y := fun e => by
  subst e
  rw [h1] at h2
  cases h2
def zp (E : zE) (M : zM) (a n k : Nat) (P : PS) : Prop := ∃ f : Nat → Int32, M a = some (.inr (3, [.ref (a + 1), .int (tI k)])) ∧ M (a + 1) = some (.inl (E.2.1 0, n, .inl f)) ∧ rep f k P ∧ k ≤ n ∧ n < 1000
/-- nothing but the cells at a and a + 1 is another -/
def zout (M M' : zM) (a : Nat) : Prop := ∀ q, q ≠ a → q ≠ a + 1 → M' q = M q
theorem zout_uu {M : zM} {a : Nat} {e e' : va_E} : zout M (zU (zU M a e) (a + 1) e') a := fun q h1 h2 => (zU_ne h2).trans (zU_ne h1)
theorem zout_u1 {M : zM} {a : Nat} {e' : va_E} : zout M (zU M (a + 1) e') a := fun _ _ h2 => zU_ne h2
theorem zout_u0 {M : zM} {a : Nat} {e' : va_E} : zout M (zU M a e') a := fun _ h1 _ => zU_ne h1
theorem zout_rf {M : zM} {a : Nat} : zout M M a := fun _ _ _ => rfl
theorem zout_tr {M M' M'' : zM} {a : Nat} (h1 : zout M M' a) (h2 : zout M' M'' a) : zout M M'' a := fun q g1 g2 => (h2 q g1 g2).trans (h1 q g1 g2)
theorem zp_ap {E : zE} {M : zM} {a n k b n' k' : Nat} {P P' : PS} (ha : zp E M a n k P) (hb : zp E M b n' k' P') : a + 1 ≠ b ∧ b + 1 ≠ a := by
  obtain ⟨f, h0, h1, -⟩ := ha
  obtain ⟨g, g0, g1, -⟩ := hb
  exact ⟨z_apart h1 g0, z_apart g1 h0⟩
theorem zp_kept {E : zE} {M M' : zM} {b n k : Nat} {P : PS} (h : zp E M b n k P) (h0 : M' b = M b) (h1 : M' (b + 1) = M (b + 1)) : zp E M' b n k P := by
  obtain ⟨f, g0, g1, g⟩ := h
  exact ⟨f, h0.trans g0, h1.trans g1, g⟩
theorem zp_out {E : zE} {M M' : zM} {a n k b n' k' : Nat} {P P' : PS} (ho : zout M M' a) (ha : zp E M a n k P) (hb : zp E M b n' k' P') (hne : b ≠ a) : zp E M' b n' k' P' := by
  obtain ⟨e1, e2⟩ := zp_ap ha hb
  exact zp_kept hb (ho b hne (by omega)) (ho (b + 1) (by omega) (by omega))
theorem zp_lt {E : zE} {M : zM} {a n k : Nat} {P : PS} (h : zp E M a n k P) : k ≤ n ∧ n < 1000 := by
  obtain ⟨f, -, -, -, h⟩ := h
  exact h
theorem zp_pol {E : zE} {M : zM} {a n k : Nat} {P : PS} (h : zp E M a n k P) : (∀ i, k ≤ i → P i = 0) ∧ ∀ m, k = m + 1 → P m ≠ 0 := by
  obtain ⟨f, -, -, h, -⟩ := h
  exact ⟨h.1, h.2.1⟩
theorem upd_eq {f : Nat → Int32} {k : Nat} {x : Int32} : upd f k x k = x := by simp [upd]
theorem upd_ne {f : Nat → Int32} {k j : Nat} {x : Int32} (h : j ≠ k) : upd f k x j = f j := by simp [upd, h]
theorem inv_up {g F : Nat → Int32} {i : Nat} {x : Int32} (hg : ∀ j, j < i → g j = F j) (hx : x = F i) : ∀ j, j < i + 1 → upd g i x j = F j := by
  intro j hj
  rcases Nat.lt_or_ge j i with q | q
  · rw [upd_ne (by omega)]; exact hg j q
  · rw [show j = i by omega, upd_eq]; exact hx
theorem inv_keep {g f : Nat → Int32} {i : Nat} {x : Int32} (hg : ∀ j, i ≤ j → g j = f j) : ∀ j, i + 1 ≤ j → upd g i x j = f j := by
  intro j hj
  rw [upd_ne (by omega)]; exact hg j (by omega)
theorem tI_gtn {i n : Nat} (hi : i < 2 ^ 30) (hn : n < 2 ^ 30) : tI n < nI i ↔ n ≤ i := by
  rw [Int32.lt_iff_toInt_lt, nI_toInt (by omega), tI_int hn]; omega
/-- the derivative -/
def ps_der (B : PS) : PS := fun i => B (i + 1) * Fin.ofNat 10007 (i + 1)
/-- Horner's way -/
def ev : Nat → PS → FF → FF
  | 0, _, _ => 0
  | k + 1, A, c => A 0 + c * ev k (ps_sh A) c
theorem fI_muln {y : FF} {i : Nat} (hi : i < 1000) : fI y * nI i - fI y * nI i / 10007 * 10007 = fI (y * Fin.ofNat 10007 i) := by
  have e : nI i = fI (Fin.ofNat 10007 i) := by
    show nI i = nI (i % 10007)
    rw [Nat.mod_eq_of_lt (by omega)]
  rw [e, fI_mul]
theorem ff_cm (a b : FF) : a * b = b * a := by grind
