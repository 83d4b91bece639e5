/-! CODES: what they are, how steps work on a stack (its top first), how both sides hold them -/
abbrev STP : Type := Nat × Nat
abbrev CL : Type := Nat × Nat × Nat × Nat × Nat
/-- (ask, hours, must), (how many clauses, the clauses: sort, kind, number, start, stop), (how many steps, the steps) -/
abbrev CD : Type := (Nat × Nat × Nat) × (Nat × (Nat → CL)) × (Nat × (Nat → STP))
def c_a (C : CD) : Nat := C.1.1
def c_h (C : CD) : Nat := C.1.2.1
def c_m (C : CD) : Nat := C.1.2.2
def c_n (C : CD) : Nat := C.2.1.1
def c_s (C : CD) (i : Nat) : Nat := (C.2.1.2 i).1
def c_k (C : CD) (i : Nat) : Nat := (C.2.1.2 i).2.1
def c_v (C : CD) (i : Nat) : Nat := (C.2.1.2 i).2.2.1
def c_f (C : CD) (i : Nat) : Nat := (C.2.1.2 i).2.2.2.1
def c_t (C : CD) (i : Nat) : Nat := (C.2.1.2 i).2.2.2.2
def c_z (C : CD) : Nat := C.2.2.1
def c_p (C : CD) (j : Nat) : STP := C.2.2.2 j
/-- two values joined; the steps: 0 a number, 1 a word, 2 plus, 3 minus, 4 to 8 a sign, 9 not, 10 and, 11 or -/
def e_b (op : Nat) (x y : Int32) : Int32 :=
  if op = 2 then x + y else if op = 3 then x - y else if op = 4 then (if x < y then 1 else 0) else if op = 5 then (if x ≤ y then 1 else 0) else if op = 6 then (if x = y then 1 else 0)
  else if op = 7 then (if y ≤ x then 1 else 0) else if op = 8 then (if y < x then 1 else 0) else if op = 10 then x &&& y else x ||| y
def e_1 (g : Nat → Int32) (p : STP) (st : List Int32) : List Int32 :=
  if p.1 = 0 then nI p.2 :: st else if p.1 = 1 then g p.2 :: st else if p.1 = 9 then (match st with
    | [] => []
    | x :: t => (1 - x) :: t) else match st with
    | y :: x :: t => e_b p.1 x y :: t
    | t => t
def e_n (g : Nat → Int32) (S : Nat → STP) : Nat → Nat → List Int32 → List Int32
  | 0, _, st => st
  | n + 1, i, st => e_n g S n (i + 1) (e_1 g (S i) st)
/-- the sorts of what lies on the stack: true a truth value, false a number -/
def t_1 (p : STP) (ts : List Bool) : Option (List Bool) :=
  if p.1 = 0 then (if p.2 < 10000 ∧ ts.length < 64 then some (false :: ts) else none)
  else if p.1 = 1 then (if p.2 < 10 ∧ ts.length < 64 then some (false :: ts) else none)
  else if p.1 < 4 then (match ts with | false :: false :: t => some (false :: t) | _ => none)
  else if p.1 < 9 then (match ts with | false :: false :: t => some (true :: t) | _ => none)
  else if p.1 = 9 then (match ts with | true :: t => some (true :: t) | _ => none)
  else if p.1 < 12 then (match ts with | true :: true :: t => some (true :: t) | _ => none)
  else none
def t_n (S : Nat → STP) : Nat → Nat → List Bool → Option (List Bool)
  | 0, _, ts => some ts
  | n + 1, i, ts => match t_1 (S i) ts with
    | none => none
    | some us => t_n S n (i + 1) us
/-- what lies on the stack is of these sorts -/
def t_ok : List Bool → List Int32 → Prop
  | [], [] => True
  | b :: ts, x :: st => (b = true → x = 0 ∨ x = 1) ∧ t_ok ts st
  | _, _ => False
theorem t_len : ∀ {ts : List Bool} {st : List Int32}, t_ok ts st → ts.length = st.length
  | [], [], _ => rfl
  | _ :: _, _ :: _, h => congrArg (· + 1) (t_len h.2)
  | [], _ :: _, h => h.elim
  | _ :: _, [], h => h.elim
theorem t_two {b c : Bool} {ts : List Bool} {st : List Int32} (h : t_ok (b :: c :: ts) st) : ∃ y x t, st = y :: x :: t ∧ (b = true → y = 0 ∨ y = 1) ∧ (c = true → x = 0 ∨ x = 1) ∧ t_ok ts t := by
  match st, h with
  | y :: x :: t, h => exact ⟨y, x, t, rfl, h.1, h.2.1, h.2.2⟩
  | [_], h => exact h.2.elim
  | [], h => exact h.elim
theorem t_one {b : Bool} {ts : List Bool} {st : List Int32} (h : t_ok (b :: ts) st) : ∃ y t, st = y :: t ∧ (b = true → y = 0 ∨ y = 1) ∧ t_ok ts t := by
  match st, h with
  | y :: t, h => exact ⟨y, t, rfl, h.1, h.2⟩
  | [], h => exact h.elim
theorem e_bs {x y : Int32} (op : Nat) (hx : x = 0 ∨ x = 1) (hy : y = 0 ∨ y = 1) (h : op = 10 ∨ op = 11) : e_b op x y = 0 ∨ e_b op x y = 1 := by
  rcases h with h | h <;> rcases hx with hx | hx <;> rcases hy with hy | hy <;> subst h <;> subst hx <;> subst hy <;> decide
theorem e_cs {x y : Int32} (op : Nat) (h : 4 ≤ op) (h2 : op < 9) : e_b op x y = 0 ∨ e_b op x y = 1 := by
  have : op = 4 ∨ op = 5 ∨ op = 6 ∨ op = 7 ∨ op = 8 := by omega
  rcases this with h | h | h | h | h <;> subst h <;> simp only [e_b, Nat.reduceEqDiff, if_true, if_false] <;> split <;> simp
/-- one step keeps the sorts; what it asks of the stack -/
theorem t_step {g : Nat → Int32} {p : STP} {ts us : List Bool} {st : List Int32} (h : t_1 p ts = some us) (hs : t_ok ts st) : t_ok us (e_1 g p st) ∧
    ((p.1 = 0 ∧ p.2 < 10000 ∧ st.length < 64 ∧ e_1 g p st = nI p.2 :: st) ∨ (p.1 = 1 ∧ p.2 < 10 ∧ st.length < 64 ∧ e_1 g p st = g p.2 :: st) ∨ (p.1 = 9 ∧ ∃ x t, st = x :: t ∧ e_1 g p st = (1 - x) :: t) ∨
      (2 ≤ p.1 ∧ p.1 < 12 ∧ p.1 ≠ 9 ∧ ∃ y x t, st = y :: x :: t ∧ e_1 g p st = e_b p.1 x y :: t)) := by
  obtain ⟨op, v⟩ := p
  unfold t_1 at h
  simp only [] at h
  by_cases h0 : op = 0
  · subst h0
    rw [if_pos rfl] at h
    split at h
    · rename_i hc
      cases h
      have hl := t_len hs
      exact ⟨⟨fun z => (by cases z), hs⟩, Or.inl ⟨rfl, hc.1, by omega, rfl⟩⟩
    · cases h
  rw [if_neg h0] at h
  by_cases h1 : op = 1
  · subst h1
    rw [if_pos rfl] at h
    split at h
    · rename_i hc
      cases h
      have hl := t_len hs
      exact ⟨⟨fun z => (by cases z), hs⟩, Or.inr (Or.inl ⟨rfl, hc.1, by omega, rfl⟩)⟩
    · cases h
  rw [if_neg h1] at h
  have e2 : op ≠ 9 → ∀ y x t, e_1 g (op, v) (y :: x :: t) = e_b op x y :: t := fun h9 y x t => by
    unfold e_1
    simp only [h0, h1, h9, if_false]
  by_cases h4 : op < 4
  · rw [if_pos h4] at h
    split at h
    · rename_i t
      cases h
      obtain ⟨y, x, t, rfl, hy, hx, ht⟩ := t_two hs
      rw [e2 (by omega)]
      exact ⟨⟨fun z => (by cases z), ht⟩, Or.inr (Or.inr (Or.inr ⟨by simp only []; omega, by simp only []; omega, by simp only []; omega, y, x, t, rfl, rfl⟩))⟩
    · cases h
  rw [if_neg h4] at h
  by_cases h5 : op < 9
  · rw [if_pos h5] at h
    split at h
    · rename_i t
      cases h
      obtain ⟨y, x, t, rfl, hy, hx, ht⟩ := t_two hs
      rw [e2 (by omega)]
      exact ⟨⟨fun _ => e_cs op (by omega) h5, ht⟩, Or.inr (Or.inr (Or.inr ⟨by simp only []; omega, by simp only []; omega, by simp only []; omega, y, x, t, rfl, rfl⟩))⟩
    · cases h
  rw [if_neg h5] at h
  by_cases h9 : op = 9
  · subst h9
    rw [if_pos rfl] at h
    split at h
    · rename_i t
      cases h
      obtain ⟨x, t, rfl, hx, ht⟩ := t_one hs
      have e3 : e_1 g (9, v) (x :: t) = (1 - x) :: t := rfl
      rw [e3]
      refine ⟨⟨fun _ => ?_, ht⟩, Or.inr (Or.inr (Or.inl ⟨rfl, x, t, rfl, rfl⟩))⟩
      rcases hx rfl with e | e <;> subst e <;> decide
    · cases h
  rw [if_neg h9] at h
  by_cases h12 : op < 12
  · rw [if_pos h12] at h
    split at h
    · rename_i t
      cases h
      obtain ⟨y, x, t, rfl, hy, hx, ht⟩ := t_two hs
      rw [e2 h9]
      exact ⟨⟨fun _ => e_bs op (hx rfl) (hy rfl) (by omega), ht⟩, Or.inr (Or.inr (Or.inr ⟨by simp only []; omega, by simp only []; omega, by simp only []; omega, y, x, t, rfl, rfl⟩))⟩
    · cases h
  rw [if_neg h12] at h
  cases h
/-- a clause's test: 1 if it holds, or there is none -/
def c_I (C : CD) (g : Nat → Int32) (i : Nat) : Int32 := (e_n g (c_p C) (c_t C i - c_f C i) (c_f C i) []).headD 1
def c_H (C : CD) (g : Nat → Int32) (i : Nat) : Bool := c_I C g i = 1
theorem t_run {g : Nat → Int32} {S : Nat → STP} : ∀ (n i : Nat) (ts us : List Bool) (st : List Int32), t_n S n i ts = some us → t_ok ts st → t_ok us (e_n g S n i st) := by
  intro n
  induction n with
  | zero =>
    intro i ts us st h hs
    cases h
    exact hs
  | succ n ih =>
    intro i ts us st h hs
    unfold t_n at h
    split at h
    · cases h
    · rename_i vs e
      exact ih (i + 1) vs us _ h (t_step e hs).1
/-- a code as it must be -/
def c_ok (C : CD) : Prop := c_a C < 16 ∧ 0 < c_h C ∧ c_h C < 9 ∧ c_m C < 16 ∧ c_n C ≤ 14 ∧ c_z C ≤ 256 ∧
  (∀ i, i < c_n C → c_s C i < 6 ∧ c_k C i < 4 ∧ c_v C i < 16 ∧ c_f C i ≤ c_t C i ∧ c_t C i ≤ c_z C ∧ (c_f C i = c_t C i ∧ c_s C i ≠ 2 ∨ c_f C i < c_t C i ∧ t_n (c_p C) (c_t C i - c_f C i) (c_f C i) [] = some [true])) ∧
  (∀ j, j < c_z C → (c_p C j).2 < 10000) ∧ ∀ i, i < c_n C → c_s C i = 2 → c_k C i = 0
theorem c_I01 {C : CD} (h : c_ok C) (g : Nat → Int32) {i : Nat} (hi : i < c_n C) : c_I C g i = 0 ∨ c_I C g i = 1 := by
  unfold c_I
  rcases (h.2.2.2.2.2.2.1 i hi).2.2.2.2.2 with e | e
  · rw [e.1, Nat.sub_self]
    exact Or.inr rfl
  · obtain ⟨x, t, e2, hx, ht⟩ := t_one (t_run (g := g) _ _ _ _ [] e.2 trivial)
    rw [e2]
    exact hx rfl
/-- the class's number of a step, the reference's -/
def z_1 (p : STP) : Int32 := if p.1 = 0 then nI p.2 else if p.1 = 1 then nI (10000 + p.2) else nI (20000 + (p.1 - 2))
def z_2 (p : STP) : Int32 := nI (p.1 + 16 * p.2)
/-- the class's object o holds the code -/
def RC1 (M : QM) (o : Nat) (C : CD) : Prop := q_i M o 8 = nI (c_n C) ∧ q_i M o 9 = nI (c_a C) ∧ q_i M o 10 = nI (c_h C) ∧ q_i M o 11 = nI (c_m C) ∧
  (∀ i, i < c_n C → q_a M o 0 i = nI (c_s C i) ∧ q_a M o 1 i = nI (c_k C i) ∧ q_a M o 2 i = nI (c_v C i) ∧ q_a M o 3 i = nI (c_f C i) ∧ q_a M o 4 i = nI (c_t C i)) ∧ ∀ j, j < c_z C → q_a M o 5 j = z_1 (c_p C j)
/-- how many of the first i clauses weigh something -/
def c_w (C : CD) : Nat → Nat
  | 0 => 0
  | i + 1 => c_w C i + if c_s C i < 3 then 1 else 0
/-- the reference's rows of text t hold the code -/
def RC2 (M : QM) (t : Nat) (C : CD) : Prop := q_a M 1000 10 t = nI (c_n C) ∧ q_a M 1000 11 t = nI (c_a C) ∧ q_a M 1000 12 t = nI (c_h C) ∧ q_a M 1000 13 t = nI (c_m C) ∧ q_a M 1000 9 t = nI (c_w C (c_n C)) ∧
  (∀ i, i < c_n C → c_s C i < 3 → q_a M 1000 8 (70 * t + 5 * c_w C i) = nI (c_s C i) ∧ q_a M 1000 8 (70 * t + 5 * c_w C i + 1) = nI (c_k C i) ∧ q_a M 1000 8 (70 * t + 5 * c_w C i + 2) = nI (c_v C i) ∧
    q_a M 1000 8 (70 * t + 5 * c_w C i + 3) = (if c_f C i = c_t C i then -1 else nI (c_f C i)) ∧ q_a M 1000 8 (70 * t + 5 * c_w C i + 4) = nI (c_t C i)) ∧
  ∀ j, j < c_z C → q_a M 1000 6 (400 * t + j) = z_2 (c_p C j)
/-- the stack lies in a row -/
def stk (R : Nat → Int32) : List Int32 → Prop
  | [] => True
  | x :: t => R t.length = x ∧ stk R t
theorem stk_up {R : Nat → Int32} {T : Nat → Int32} : ∀ {st : List Int32}, stk R st → (∀ k, k < st.length → T k = R k) → stk T st
  | [], _, _ => trivial
  | x :: t, h, g => ⟨(g _ (Nat.lt_succ_self _)).trans h.1, stk_up h.2 (fun k hk => g k (Nat.lt_succ_of_lt hk))⟩
