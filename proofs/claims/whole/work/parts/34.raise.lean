/-! powers and composition: the pure rows -/
theorem pow_z {B : PS} {kb t : Nat} (hB : ∀ i, kb ≤ i → B i = 0) (ht : t * (kb - 1) ≤ 12) : ∀ i, i ≤ t → ∀ j, 13 ≤ j → ps_pow B i j = 0 := by
  intro i hi j hj
  refine (pow_top (q := B) (k := kb - 1) (fun x hx => hB x (by omega)) i).1 j ?_
  have : i * (kb - 1) ≤ t * (kb - 1) := Nat.mul_le_mul_right _ hi
  omega
/-- what Horner's way over two rows has after k steps -/
theorem hom_stepR {B p q : PS} {H k : Nat} (hk : k + 1 ≤ H) : ps_add (ps_mul (hom k (fun j => B (H - k + j)) p q) p) (ps_mul (ps_C (B (H - (k + 1)))) (ps_mul (ps_pow q k) q)) = hom (k + 1) (fun j => B (H - (k + 1) + j)) p q := by
  rw [hom]
  rw [show ps_sh (fun j => B (H - (k + 1) + j)) = (fun j => B (H - k + j)) by funext j; simp only [ps_sh]; congr 1; omega]
  rw [Nat.add_zero]
  rw [show ps_pow q (k + 1) = ps_mul (ps_pow q k) q from rfl]
  generalize hom k (fun j => B (H - k + j)) p q = x
  generalize ps_C (B (H - (k + 1))) = y
  generalize ps_mul (ps_pow q k) q = z
  letI := ps_ring
  show x * p + y * z = y * z + p * x
  grind
theorem hom_z {p q f : PS} {H K k : Nat} (hp : ∀ i, K < i → p i = 0) (hq : ∀ i, K < i → q i = 0) (hHK : H * K ≤ 12) (hk : k ≤ H) : (∀ j, 13 ≤ j → hom k f p q j = 0) ∧ ∀ j, 13 ≤ j → ps_pow q k j = 0 := by
  have : k * K ≤ H * K := Nat.mul_le_mul_right _ hk
  exact ⟨fun j hj => (hom_top hp hq k f).1 j (by omega), fun j hj => (pow_top hq k).1 j (by omega)⟩
