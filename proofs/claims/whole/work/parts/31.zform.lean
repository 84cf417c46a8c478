/-! FORMs and the workshop in the world -/
def zoutR (M M' : zM) (lo hi : Nat) : Prop := ∀ q, (q < lo ∨ hi ≤ q) → M' q = M q
theorem zoutR_rf {M : zM} {lo hi : Nat} : zoutR M M lo hi := fun _ _ => rfl
theorem zout_R {M M' : zM} {a lo hi : Nat} (ho : zout M M' a) (h1 : lo ≤ a) (h2 : a + 2 ≤ hi) : zoutR M M' lo hi := fun q hq => ho q (by omega) (by omega)
theorem zoutR_w {M M' : zM} {lo hi lo' hi' : Nat} (ho : zoutR M M' lo hi) (h1 : lo' ≤ lo) (h2 : hi ≤ hi') : zoutR M M' lo' hi' := fun q hq => ho q (by omega)
theorem zoutR_tr {M M' M'' : zM} {lo hi : Nat} (h1 : zoutR M M' lo hi) (h2 : zoutR M' M'' lo hi) : zoutR M M'' lo hi := fun q hq => (h2 q hq).trans (h1 q hq)
theorem zp_c0 {E : zE} {M : zM} {a n k : Nat} {P : PS} (h : zp E M a n k P) : M a = some (.inr (3, [.ref (a + 1), .int (tI k)])) := by
  obtain ⟨f, h0, -⟩ := h
  exact h0
theorem zp_o {E : zE} {M M' : zM} {a b n k : Nat} {P : PS} (ho : zout M M' a) (h : zp E M b n k P) (hne : b + 2 ≤ a ∨ a + 2 ≤ b) : zp E M' b n k P := zp_kept h (ho b (by omega) (by omega)) (ho (b + 1) (by omega) (by omega))
theorem zp_oR {E : zE} {M M' : zM} {lo hi b n k : Nat} {P : PS} (ho : zoutR M M' lo hi) (h : zp E M b n k P) (hne : b + 2 ≤ lo ∨ hi ≤ b) : zp E M' b n k P := zp_kept h (ho b (by omega)) (ho (b + 1) (by omega))
def zf (E : zE) (M : zM) (q kn kd : Nat) (N D : PS) : Prop := M q = some (.inr (1, [.ref (q + 1), .ref (q + 3)])) ∧ zp E M (q + 1) 13 kn N ∧ zp E M (q + 3) 13 kd D
theorem zf_oR {E : zE} {M M' : zM} {lo hi q kn kd : Nat} {N D : PS} (ho : zoutR M M' lo hi) (h : zf E M q kn kd N D) (hne : q + 5 ≤ lo ∨ hi ≤ q) : zf E M' q kn kd N D := ⟨(ho q (by omega)).trans h.1, zp_oR ho h.2.1 (by omega), zp_oR ho h.2.2 (by omega)⟩
/-- the workshop at w: its seven polynomials; over and under hold N and D -/
def zsh (E : zE) (M : zM) (w kn kd : Nat) (N D : PS) : Prop := M w = some (.inr (9, [.ref (w + 1), .ref (w + 3), .ref (w + 5), .ref (w + 7), .ref (w + 9), .ref (w + 11), .ref (w + 13)])) ∧ zp E M (w + 1) 25 kn N ∧ zp E M (w + 3) 25 kd D ∧ (∃ k P, zp E M (w + 5) 25 k P) ∧ (∃ k P, zp E M (w + 7) 25 k P) ∧ (∃ k P, zp E M (w + 9) 25 k P) ∧ (∃ k P, zp E M (w + 11) 25 k P) ∧ ∃ k P, zp E M (w + 13) 25 k P
theorem zsh_oR {E : zE} {M M' : zM} {lo hi w kn kd : Nat} {N D : PS} (ho : zoutR M M' lo hi) (h : zsh E M w kn kd N D) (hne : w + 15 ≤ lo ∨ hi ≤ w) : zsh E M' w kn kd N D := by
  obtain ⟨h0, h1, h2, ⟨k3, P3, h3⟩, ⟨k4, P4, h4⟩, ⟨k5, P5, h5⟩, ⟨k6, P6, h6⟩, ⟨k7, P7, h7⟩⟩ := h
  exact ⟨(ho w (by omega)).trans h0, zp_oR ho h1 (by omega), zp_oR ho h2 (by omega), ⟨k3, P3, zp_oR ho h3 (by omega)⟩, ⟨k4, P4, zp_oR ho h4 (by omega)⟩, ⟨k5, P5, zp_oR ho h5 (by omega)⟩, ⟨k6, P6, zp_oR ho h6 (by omega)⟩, ⟨k7, P7, zp_oR ho h7 (by omega)⟩⟩
/-- no more places are used than the coefficients reach -/
theorem zp_le {E : zE} {M : zM} {a n k m : Nat} {P : PS} (h : zp E M a n k P) (hz : ∀ i, m ≤ i → P i = 0) : k ≤ m := by
  rcases Nat.lt_or_ge m k with q | q
  · exact absurd (hz (k - 1) (by omega)) ((zp_pol h).2 (k - 1) (by omega))
  · exact q
theorem zp_sz {E : zE} {M : zM} {a n k n' : Nat} {P : PS} (h : zp E M a n k P) (hn : n = n') : zp E M a n' k P := hn ▸ h
theorem der_z {P : PS} {k m : Nat} (h : ∀ i, k ≤ i → P i = 0) (hm : k ≤ m + 1) : ∀ i, m ≤ i → ps_der P i = 0 := by
  intro i hi
  simp only [ps_der, h (i + 1) (by omega)]
  grind
