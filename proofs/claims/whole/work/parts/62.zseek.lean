/-! a FORM's text -/
def snd (v : Nat) : Nat → Nat → List Nat
  | 0, _ => []
  | m + 1, u => (if u ≤ v then [48 + v / u % 10] else []) ++ snd v m (u / 10)
/-- a number's digits -/
def sn (v : Nat) : List Nat := snd v 5 10000
def sp (f k : Nat) : List Nat := if k = 0 then sn f else (if f = 1 then [] else sn f ++ [42]) ++ [120] ++ (if 1 < k then [94] ++ sn k else [])
def spl (P : PS) (t : Nat) : Nat → List Nat
  | 0 => []
  | m + 1 => (if P m = 0 then [] else (if m + 1 < t then [43] else []) ++ sp (P m).val m) ++ spl P t m
/-- the text of a polynomial of k places -/
def txtP (P : PS) (k : Nat) : List Nat := (if k = 0 then [48] else []) ++ spl P k k
def txtF (N D : PS) (kn kd : Nat) : List Nat := if kd = 1 then txtP N kn else [40] ++ txtP N kn ++ [41] ++ [47] ++ [40] ++ txtP D kd ++ [41]
theorem snd_len (v : Nat) : ∀ m u, (snd v m u).length ≤ m := by
  intro m
  induction m with
  | zero => intro u; exact Nat.le_refl _
  | succ m ih =>
    intro u
    unfold snd
    rw [List.length_append]
    have := ih (u / 10)
    split
    · rw [List.length_singleton]; omega
    · rw [List.length_nil]; omega
theorem sn_len (v : Nat) : (sn v).length ≤ 5 := snd_len v 5 10000
theorem sp_len (f k : Nat) : (sp f k).length ≤ 13 := by
  unfold sp
  have h1 := sn_len f
  have h2 := sn_len k
  split
  · omega
  · split <;> split <;> simp <;> omega
theorem spl_len (P : PS) (t : Nat) : ∀ m, (spl P t m).length ≤ 14 * m := by
  intro m
  induction m with
  | zero => exact Nat.le_refl _
  | succ m ih =>
    unfold spl
    have := sp_len (P m).val m
    rw [List.length_append]
    split
    · rw [List.length_nil]; omega
    · split
      · rw [List.length_append, List.length_singleton]; omega
      · rw [List.length_append, List.length_nil]; omega
theorem txtP_len (P : PS) (k : Nat) : (txtP P k).length ≤ 14 * k + 1 := by
  unfold txtP
  have := spl_len P k k
  rw [List.length_append]
  split
  · rw [List.length_singleton]; omega
  · rw [List.length_nil]; omega
theorem getD_ap {l : List Nat} {c W : Nat} : (l ++ [c]).getD W 0 = if l.length = W then c else l.getD W 0 := by
  rw [List.getD_eq_getElem?_getD, List.getD_eq_getElem?_getD]
  split
  · next q => rw [← q, List.getElem?_append_right (Nat.le_refl _), Nat.sub_self]; rfl
  · next q =>
    rcases Nat.lt_or_ge W l.length with h | h
    · rw [List.getElem?_append_left h]
    · rw [List.getElem?_append_right h, List.getElem?_eq_none (by rw [List.length_singleton]; omega), List.getElem?_eq_none h]
/-- the seeker at t: what is wanted, what is spelt so far -/
def zts (M : zM) (t W : Nat) (l : List Nat) : Prop := M t = some (.inr (7, [.int (nI W), .int (nI l.length), .int (nI (l.getD W 0))])) ∧ W < 2 ^ 31 ∧ l.length < 2 ^ 20
/-- the places that a polynomial uses -/
def isC (P : PS) (k : Nat) : Prop := (∀ i, k ≤ i → P i = 0) ∧ ∀ m, k = m + 1 → P m ≠ 0
theorem isC_un {P : PS} {a b : Nat} (h1 : isC P a) (h2 : isC P b) : a = b := by
  rcases Nat.lt_trichotomy a b with q | q | q
  · exact absurd (h1.1 (b - 1) (by omega)) (h2.2 (b - 1) (by omega))
  · exact q
  · exact absurd (h2.1 (a - 1) (by omega)) (h1.2 (a - 1) (by omega))
noncomputable def cnt (P : PS) : Nat := @Classical.epsilon Nat ⟨0⟩ (isC P)
theorem cnt_eq {P : PS} {k : Nat} (h : isC P k) : cnt P = k := isC_un (@Classical.epsilon_spec Nat (isC P) ⟨k, h⟩) h
theorem zp_cnt {E : zE} {M : zM} {a n k : Nat} {P : PS} (h : zp E M a n k P) : cnt P = k := cnt_eq (zp_pol h)
noncomputable def txt (x : PS × PS) : List Nat := txtF x.1 x.2 (cnt x.1) (cnt x.2)
theorem nI_z {a : Nat} (h : a < 2 ^ 31) : nI a = 0 ↔ a = 0 := nI_eq (a := a) (b := 0) h (by decide)
