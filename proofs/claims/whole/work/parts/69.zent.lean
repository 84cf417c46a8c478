/-! what enter does, in the reader's and the worker's words -/
/-- the reader's answer on a line, its state at the end; what lay in it before is free -/
def rdR (cs : List Nat) (g : (Nat → Nat) × (Nat → Nat) × (Nat → Nat) × Nat × Nat × Nat) : Int32 × RS := r_fin (r_loop cs 32 (r_start cs g.1 g.2.1 g.2.2.1 g.2.2.2.1 g.2.2.2.2.1 g.2.2.2.2.2))
def rdP (s : RS) : List (Nat × Int) := s.2.2.2.2.2.2.2.2.2.1
def rdT (s : RS) : Int32 := s.2.2.2.2.2.2.2.2.2.2
/-- a good line's program can be worked out, to one FORM -/
def goodL (fs : List (PS × PS)) (nb : Nat → Nat) (cs : List Nat) : Prop := ∀ g, (rdR cs g).1 = -1 → wfp (rdP (rdR cs g).2) 0 ∧ (∀ rs, evp fs nb (rdP (rdR cs g).2) [] = .inr rs → rs.length = 1) ∧ (rdT (rdR cs g).2 = -1 ∨ ∃ j, j < 3 ∧ rdT (rdR cs g).2 = nI j)
/-- the names behind a binding -/
def bindN (nb : Nat → Nat) (t : Int32) (l : Nat) : Nat → Nat := if t < 0 then nb else fun j => if j = t.toNatClampNeg then l else nb j
/-- enter's answer and what it leaves -/
def entC (g : (Nat → Nat) × (Nat → Nat) × (Nat → Nat) × Nat × Nat × Nat) : St → Int32 → St → Prop
  | (cs, fs, ss, nb, sc, bad), v, s' => (fs.length = 40 ∧ v = -2 ∧ s' = ([], fs, ss, nb, sc, bad)) ∨ (fs.length < 40 ∧ ((rdR cs g).1 ≠ -1 ∧ v = -3 ∧ s' = ([], fs, ss, nb, sc, (rdR cs g).1) ∨ (rdR cs g).1 = -1 ∧ ((∃ t, evp fs nb (rdP (rdR cs g).2) [] = .inl t ∧ v = t ∧ s' = ([], fs, ss, nb, sc, bad)) ∨ ∃ x r sc', evp fs nb (rdP (rdR cs g).2) [] = .inr [x] ∧ isform x.1 x.2 ∧ v = nI (fs.length + 1) ∧ shN fs ss sc x r sc' ∧ s' = ([], fs ++ [x], ss ++ [r], bindN nb (rdT (rdR cs g).2) (fs.length + 1), sc', bad))))
