/-! the reader: its state as a tuple, its methods as functions, its world -/
abbrev RS : Type := (Nat → Nat) × (Nat → Nat) × (Nat → Nat) × Nat × Nat × Nat × Nat × Nat × Nat × List (Nat × Int) × Int32
def updN (f : Nat → Nat) (k x : Nat) : Nat → Nat := fun j => if j = k then x else f j
theorem nI_upd {f : Nat → Nat} {k x : Nat} : upd (fun j => nI (f j)) k (nI x) = fun j => nI (updN f k x j) := by
  funext j
  unfold upd updN
  split <;> rfl
theorem updN_b {f : Nat → Nat} {k x b : Nat} (h : ∀ j, f j < b) (hx : x < b) : ∀ j, updN f k x j < b := by
  intro j
  unfold updN
  split
  · exact hx
  · exact h j
theorem updN_eq {f : Nat → Nat} {k x : Nat} : updN f k x k = x := if_pos rfl
theorem updN_ne {f : Nat → Nat} {k x j : Nat} (h : j ≠ k) : updN f k x j = f j := if_neg h
theorem pk_subn {a n : Nat} (h : n ≤ a) : nI a + -(nI n) = nI (a - n) := by
  rw [← pk_sub h, Int32.sub_eq_add_neg]
abbrev isD (c : Nat) : Prop := 48 ≤ c ∧ c ≤ 57
abbrev isNm (c : Nat) : Prop := 97 ≤ c ∧ c < 100
def addp (ps : List (Nat × Int)) (x : Nat × Int) : List (Nat × Int) := if ps.length < 32 then ps ++ [x] else ps
def r_sum : RS → RS
  | (o, a, b, n, i, k, w, y, h, ps, t) => (o, updN a n 0, updN b n 0, n, i, k, 1, 1, h, ps, t)
def r_atm : RS → RS
  | (o, a, b, n, i, k, w, y, h, ps, t) => (o, a, b, n, i + 1, k, 1, 0, h, ps, t)
def r_end (x : Nat × Int) : RS → RS
  | (o, a, b, n, i, k, w, y, h, ps, t) => (o, a, b, n, i, k, 0, y, 1, addp ps x, t)
def r_fp : RS → RS
  | (o, a, b, n, i, k, w, y, h, ps, t) => if b n = 0 then (o, a, b, n, i, k, w, y, h, ps, t) else (o, a, updN b n 0, n, i, k, w, y, h, addp ps (b n, 0), t)
def r_fs : RS → RS
  | (o, a, b, n, i, k, w, y, h, ps, t) => if a n = 0 then (o, a, b, n, i, k, w, y, h, ps, t) else (o, updN a n 0, b, n, i, k, w, y, h, addp ps (a n, 0), t)
def r_ft (s : RS) : RS := r_fs (r_fp s)
def r_cl2 : RS → RS
  | (o, a, b, n, i, k, w, y, h, ps, t) => (o, a, b, n - 1, i, k, 0, y, 1, (if o n = 100 then addp ps (7, 0) else if o n = 44 then addp ps (12, 0) else ps), t)
def r_cl (s : RS) : RS := r_cl2 (r_ft s)
def r_op (cs : List Nat) (c : Nat) : RS → RS
  | (o, a, b, n, i, k, w, y, h, ps, t) => if 8 ≤ n then (o, a, b, n, i, 1, w, y, h, ps, t) else if cs.getD (if c = 40 then i else i + 1) 0 = 40 then r_sum (updN o (n + 1) c, a, b, n + 1, (if c = 40 then i else i + 1) + 1, k, w, y, h, ps, t) else (o, a, b, n, (if c = 40 then i else i + 1), 1, w, y, h, ps, t)
def rnum (cs : List Nat) (x : Nat) : Nat → Nat → Nat → Nat × Nat
  | 0, w, i => (w, i)
  | d + 1, w, i => if isD (cs.getD i 0) ∧ w * 10 + (cs.getD i 0 - 48) ≤ x then rnum cs x d (w * 10 + (cs.getD i 0 - 48)) (i + 1) else (w, i)
def r_num (cs : List Nat) (m x : Nat) : RS → RS
  | (o, a, b, n, i, k, w, y, h, ps, t) => (o, a, b, n, (rnum cs x m 0 i).2, (if (rnum cs x m 0 i).2 = i then 1 else k), w, y, h, ps, t)
def r_ex2 (v : Nat) (g : Prop) [Decidable g] : RS → RS
  | (o, a, b, n, i, k, w, y, h, ps, t) => (o, a, b, n, i, k, w, y, 0, addp ps (5, if g then -(v : Int) else (v : Int)), t)
def r_ex (cs : List Nat) : RS → RS
  | (o, a, b, n, i, k, w, y, h, ps, t) => if cs.getD i 0 = 45 then r_ex2 (rnum cs 12 2 0 (i + 1)).1 True (r_num cs 2 12 (o, a, b, n, i + 1, k, w, y, h, ps, t)) else r_ex2 (rnum cs 12 2 0 i).1 False (r_num cs 2 12 (o, a, b, n, i, k, w, y, h, ps, t))
def r_tg (cs : List Nat) : RS → RS
  | (o, a, b, n, i, k, w, y, h, ps, t) => if isNm (cs.getD 0 0) ∧ cs.getD 1 0 = 58 then (o, a, b, n, 2, k, w, y, h, ps, nI (cs.getD 0 0 - 97)) else (o, a, b, n, i, k, w, y, h, ps, t)
def r_bef (cs : List Nat) (c : Nat) : RS → RS
  | (o, a, b, n, i, k, w, y, h, ps, t) =>
    if y = 1 ∧ (c = 43 ∨ c = 45) then (o, updN a n (if c = 45 then 6 else 0), b, n, i + 1, k, w, 0, h, ps, t)
    else if isD c then r_end (1, ((rnum cs 99999 5 0 i).1 : Int)) (r_num cs 5 99999 (o, a, b, n, i, k, w, y, h, ps, t))
    else if c = 37 then r_end (4, ((rnum cs 99 2 0 (i + 1)).1 : Int)) (r_num cs 2 99 (o, a, b, n, i + 1, k, w, y, h, ps, t))
    else if c = 120 then r_end (2, 0) (o, a, b, n, i + 1, k, w, y, h, ps, t)
    else if isNm c then r_end (3, ((c - 97 : Nat) : Int)) (o, a, b, n, i + 1, k, w, y, h, ps, t)
    else if c = 40 ∨ c = 100 ∨ c = 115 then r_op cs c (o, a, b, n, i, k, w, y, h, ps, t)
    else (o, a, b, n, i, 1, w, y, h, ps, t)
def r_wt (v : Nat) : RS → RS
  | (o, a, b, n, i, k, w, y, h, ps, t) => (o, a, updN b n v, n, i, k, w, y, h, ps, t)
def r_ws (v : Nat) : RS → RS
  | (o, a, b, n, i, k, w, y, h, ps, t) => (o, updN a n v, b, n, i, k, w, y, h, ps, t)
def r_wo (v : Nat) : RS → RS
  | (o, a, b, n, i, k, w, y, h, ps, t) => (updN o n v, a, b, n, i, k, w, y, h, ps, t)
def r_aft (cs : List Nat) (c : Nat) : RS → RS
  | (o, a, b, n, i, k, w, y, h, ps, t) =>
    if c = 94 ∧ h = 1 then r_ex cs (o, a, b, n, i + 1, k, w, y, h, ps, t)
    else if c = 42 ∨ c = 47 then r_atm (r_wt (if c = 42 then 10 else 11) (r_fp (o, a, b, n, i, k, w, y, h, ps, t)))
    else if c = 43 ∨ c = 45 then r_atm (r_ws (if c = 43 then 8 else 9) (r_ft (o, a, b, n, i, k, w, y, h, ps, t)))
    else if c = 44 ∧ 0 < n ∧ o n = 115 then r_sum (r_wo 44 (r_ft (o, a, b, n, i + 1, k, w, y, h, ps, t)))
    else if c = 41 ∧ 0 < n ∧ ¬ o n = 115 then r_cl (o, a, b, n, i + 1, k, w, y, h, ps, t)
    else (o, a, b, n, i, 1, w, y, h, ps, t)
def r_step (cs : List Nat) : RS → RS
  | (o, a, b, n, i, k, w, y, h, ps, t) => if w = 1 then r_bef cs (cs.getD i 0) (o, a, b, n, i, k, w, y, h, ps, t) else r_aft cs (cs.getD i 0) (o, a, b, n, i, k, w, y, h, ps, t)
def r_loop (cs : List Nat) : Nat → RS → RS
  | 0, s => s
  | m + 1, s => match s with
    | (o, a, b, n, i, k, w, y, h, ps, t) => if i < cs.length ∧ k = 0 then r_loop cs m (r_step cs (o, a, b, n, i, k, w, y, h, ps, t)) else (o, a, b, n, i, k, w, y, h, ps, t)
def r_fin : RS → Int32 × RS
  | (o, a, b, n, i, k, w, y, h, ps, t) => if k = 1 ∨ w = 1 ∨ 0 < n then (nI i, (o, a, b, n, i, k, w, y, h, ps, t)) else (-1, r_ft (o, a, b, n, i, k, w, y, h, ps, t))
def r_start (cs : List Nat) (o a b : Nat → Nat) (y w h : Nat) : RS := r_tg cs (r_sum (o, a, b, 0, 0, 0, w, y, h, [], -1))
/-- the reader at r; ahead of it the line at p and the program at p + 2 -/
def zrd (E : zE) (M : zM) (r p : Nat) (cs : List Nat) : RS → Prop
  | (o, a, b, n, i, k, w, y, h, ps, t) => M r = some (.inr (5, [.ref (r + 1), .ref (r + 2), .ref (r + 3), .int (nI n), .ref p, .ref (p + 2), .int (nI i), .int (nI k), .int (nI w), .int (nI y), .int (nI h)])) ∧ M (r + 1) = some (.inl (E.2.1 1, 9, .inl (fun j => nI (o j)))) ∧ M (r + 2) = some (.inl (E.2.1 0, 9, .inl (fun j => nI (a j)))) ∧ M (r + 3) = some (.inl (E.2.1 0, 9, .inl (fun j => nI (b j)))) ∧ zpg E M (p + 2) (ps.map img) t ∧ zln E M p cs ∧ p + 5 = r ∧ (∀ j, o j < 128) ∧ (∀ j, a j < 100) ∧ (∀ j, b j < 100) ∧ n ≤ 8 ∧ k ≤ 1 ∧ w ≤ 1 ∧ y ≤ 1 ∧ h ≤ 1
theorem getD_lt {cs : List Nat} {i : Nat} (h : ∀ c ∈ cs, c < 128) : cs.getD i 0 < 128 := by
  rw [List.getD_eq_getElem?_getD]
  cases e : cs[i]? with
  | none => decide
  | some c => exact h c (List.mem_of_getElem? e)
theorem zln_lt {E : zE} {M : zM} {p : Nat} {cs : List Nat} (h : zln E M p cs) (i : Nat) : cs.getD i 0 < 128 := by
  obtain ⟨_, _, _, _, _, h⟩ := h
  exact getD_lt h
theorem zln_len {E : zE} {M : zM} {p : Nat} {cs : List Nat} (h : zln E M p cs) : cs.length ≤ 32 := by
  obtain ⟨_, _, _, q, _⟩ := h
  exact q
/-- a change inside the reader and its program alone -/
theorem zrd_oR {E : zE} {M M' : zM} {lo hi r p : Nat} {cs : List Nat} {s : RS} (ho : zoutR M M' lo hi) (h : zrd E M r p cs s) (h1 : r + 4 ≤ lo ∨ hi ≤ p) : zrd E M' r p cs s := by
  obtain ⟨o, a, b, n, i, k, w, y, h, ps, t⟩ := s
  obtain ⟨q0, q1, q2, q3, qg, ql, q⟩ := h
  have hq := q.1
  exact ⟨(ho r (by omega)).trans q0, (ho (r + 1) (by omega)).trans q1, (ho (r + 2) (by omega)).trans q2, (ho (r + 3) (by omega)).trans q3, zpg_oR ho qg (by omega), zln_oR ho ql (by omega), q⟩
theorem addp_lt {ps : List (Nat × Int)} {x : Nat × Int} (h : ps.length < 32) : addp ps x = ps ++ [x] := if_pos h
