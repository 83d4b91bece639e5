/-! LEXING: pure functions of a place on the tape -/
def rnF (P : Nat → Bool) (b : Nat → Nat) : Nat → Nat → Nat
  | 0, p => p
  | k + 1, p => if P (b p) then rnF P b k (p + 1) else p
/-- the end of a run -/
def rn (P : Nat → Bool) (b : Nat → Nat) (n p : Nat) : Nat := rnF P b (n - p) p
def isS (x : Nat) : Bool := decide (x = 32)
def isL (x : Nat) : Bool := decide (97 ≤ x ∧ x ≤ 122)
def isD (x : Nat) : Bool := decide (48 ≤ x ∧ x ≤ 57)
def sk (b : Nat → Nat) (n p : Nat) : Nat := rn isS b n p
def we (b : Nat → Nat) (n p : Nat) : Nat := rn isL b n p
def de (b : Nat → Nat) (n p : Nat) : Nat := rn isD b n p
/-- k bytes from p on -/
def ls (b : Nat → Nat) : Nat → Nat → List Nat
  | 0, _ => []
  | k + 1, p => b p :: ls b k (p + 1)
def vl (b : Nat → Nat) : Nat → Nat → Nat → Nat
  | 0, _, a => a
  | k + 1, p, a => vl b k (p + 1) (10 * a + b p - 48)
def wl (b : Nat → Nat) (n p : Nat) : List Nat := ls b (we b n p - p) p
def nv (b : Nat → Nat) (n p : Nat) : Nat := vl b (de b n p - p) p 0
def WDS : List (List Nat) := [[115, 108, 105, 103, 104, 116], [98, 97, 99, 107], [114, 101, 102, 117, 115, 101], [97, 115, 107], [104, 111, 117, 114, 115], [109, 117, 115, 116], [108, 111, 111, 107], [119, 111, 114, 100], [108, 105, 101], [98, 108, 111, 119], [98, 111, 119], [115, 111, 114, 114, 121], [108, 101, 116, 116, 101, 114], [112, 117, 98, 108, 105, 99], [105, 102], [111, 114], [97, 110, 100], [110, 111, 116], [97, 103, 101], [114, 97, 110, 107], [104, 105, 115, 97, 103, 101], [104, 105, 115, 114, 97, 110, 107], [107, 105, 110], [111, 119, 101, 115], [108, 97, 100, 105, 101, 115], [111, 119, 101, 100], [109, 105, 110, 101], [103, 111, 110, 101]]
def wi (l : List Nat) : List (List Nat) → Nat → Nat
  | [], _ => 32
  | x :: xs, w => if l = x then w else wi l xs (w + 1)
def sgn (c d : Nat) : Nat := if c = 43 ∨ c = 45 ∨ c = 59 ∨ c = 61 ∨ c = 91 ∨ c = 93 then 256 + c else if c = 60 ∨ c = 62 then (if d = 61 then 512 + c else 256 + c) else 32
/-- the kind of the token at p: its word (32 none), 30 a number, 31 the end, 256 or 512 and a sign -/
def kd (b : Nat → Nat) (n p : Nat) : Nat := if n ≤ p then 31 else if isL (b p) then wi (wl b n p) WDS 0 else if isD (b p) then 30 else sgn (b p) (if p + 1 < n then b (p + 1) else 0)
/-- its end -/
def te (b : Nat → Nat) (n p : Nat) : Nat := if isL (b p) then we b n p else if isD (b p) then de b n p else if kd b n p < 512 then p + 1 else p + 2
/-- the next one's place -/
def nx (b : Nat → Nat) (n p : Nat) : Nat := sk b n (te b n p)
/-- its number, as the class tells it -/
def nb (b : Nat → Nat) (n p : Nat) : Int32 := if n ≤ p then nI 0 else if isL (b p) then nI 0 else if isD (b p) then (if de b n p - p ≤ 4 then nI (nv b n p) else -nI 1) else nI 0
section LEX
variable {P : Nat → Bool} {b : Nat → Nat} {n p : Nat}
theorem rn_y (h : p < n) (hp : P (b p) = true) : rn P b n p = rn P b n (p + 1) := by
  unfold rn
  obtain ⟨k, hk⟩ : ∃ k, n - p = k + 1 := ⟨n - p - 1, by omega⟩
  rw [hk, rnF, if_pos hp, show n - (p + 1) = k by omega]
theorem rn_n (hp : P (b p) = false) : rn P b n p = p := by
  unfold rn
  cases n - p with
  | zero => rfl
  | succ k => rw [rnF, if_neg (by rw [hp]; decide)]
theorem rn_e (h : n ≤ p) : rn P b n p = p := by
  unfold rn
  rw [show n - p = 0 by omega]
  rfl
theorem rn_b : ∀ (k p : Nat), p + k = n → p ≤ rn P b n p ∧ rn P b n p ≤ n ∧ (rn P b n p < n → P (b (rn P b n p)) = false) ∧ ∀ i, p ≤ i → i < rn P b n p → P (b i) = true := by
  intro k
  induction k with
  | zero =>
    intro p h
    rw [rn_e (by omega)]
    exact ⟨by omega, by omega, fun z => by omega, fun i a c => by omega⟩
  | succ k ih =>
    intro p h
    cases c : P (b p) with
    | true =>
      rw [rn_y (by omega) c]
      obtain ⟨h1, h2, h3, h4⟩ := ih (p + 1) (by omega)
      refine ⟨by omega, h2, h3, fun i a d => ?_⟩
      by_cases q : i = p
      · subst q; exact c
      · exact h4 i (by omega) d
    | false =>
      rw [rn_n c]
      exact ⟨by omega, by omega, fun _ => c, fun i a d => by omega⟩
theorem rn_le (h : p ≤ n) : p ≤ rn P b n p ∧ rn P b n p ≤ n := by
  obtain ⟨h1, h2, h3, h4⟩ := rn_b (P := P) (b := b) (n := n) (n - p) p (by omega)
  exact ⟨h1, h2⟩
theorem rn_at (h : p ≤ n) (h2 : rn P b n p < n) : P (b (rn P b n p)) = false := (rn_b (P := P) (b := b) (n := n) (n - p) p (by omega)).2.2.1 h2
theorem rn_in (h : p ≤ n) {i : Nat} (h1 : p ≤ i) (h2 : i < rn P b n p) : P (b i) = true := (rn_b (P := P) (b := b) (n := n) (n - p) p (by omega)).2.2.2 i h1 h2
theorem rn_lt (h : p < n) (hp : P (b p) = true) : p < rn P b n p := by
  rw [rn_y h hp]
  have := (rn_le (P := P) (b := b) (show p + 1 ≤ n by omega)).1
  omega
theorem sk_sk (h : p ≤ n) : sk b n (sk b n p) = sk b n p := by
  have g := (rn_le (P := isS) (b := b) h).2
  by_cases c : rn isS b n p < n
  · exact rn_n (rn_at h c)
  · exact rn_e (by unfold sk; omega)
theorem isL_I {x : Nat} : isL x = true ↔ 97 ≤ x ∧ x ≤ 122 := decide_eq_true_iff
theorem isD_I {x : Nat} : isD x = true ↔ 48 ≤ x ∧ x ≤ 57 := decide_eq_true_iff
theorem isS_I {x : Nat} : isS x = true ↔ x = 32 := decide_eq_true_iff
theorem ls_len : ∀ (k p : Nat), (ls b k p).length = k := by
  intro k
  induction k with
  | zero => intro p; rfl
  | succ k ih => intro p; exact congrArg (· + 1) (ih (p + 1))
theorem wi_b (l : List Nat) : ∀ (xs : List (List Nat)) (w : Nat), wi l xs w = 32 ∨ (w ≤ wi l xs w ∧ wi l xs w < w + xs.length) := by
  intro xs
  induction xs with
  | nil => intro w; exact Or.inl rfl
  | cons x xs ih =>
    intro w
    unfold wi
    by_cases c : l = x
    · rw [if_pos c]
      exact Or.inr ⟨Nat.le_refl _, by simp only [List.length_cons]; omega⟩
    · rw [if_neg c]
      rcases ih (w + 1) with h | h
      · exact Or.inl h
      · exact Or.inr ⟨by omega, by simp only [List.length_cons]; omega⟩
theorem wi_28 (l : List Nat) : wi l WDS 0 = 32 ∨ wi l WDS 0 < 28 := by
  rcases wi_b l WDS 0 with h | h
  · exact Or.inl h
  · exact Or.inr (by have : WDS.length = 28 := rfl; omega)
theorem sgn_b {c d : Nat} (hc : c < 256) : sgn c d = 32 ∨ (256 ≤ sgn c d ∧ sgn c d < 768) := by
  unfold sgn
  split
  · omega
  · split
    · split <;> omega
    · omega
theorem kd_lt (hb : ∀ i, i < n → b i < 256) (p : Nat) : kd b n p < 768 := by
  unfold kd
  split
  · decide
  · split
    · rcases wi_28 (wl b n p) with h | h <;> omega
    · split
      · decide
      · have := sgn_b (c := b p) (d := if p + 1 < n then b (p + 1) else 0) (hb p (by omega))
        omega
/-- a token takes something, and lies on the tape -/
theorem te_b (h : p < n) : p < te b n p ∧ te b n p ≤ n := by
  unfold te
  by_cases c : isL (b p) = true
  · rw [if_pos c]
    exact ⟨rn_lt h c, (rn_le (by omega)).2⟩
  · rw [if_neg c]
    by_cases c2 : isD (b p) = true
    · rw [if_pos c2]
      exact ⟨rn_lt h c2, (rn_le (by omega)).2⟩
    · rw [if_neg c2]
      by_cases c3 : kd b n p < 512
      · rw [if_pos c3]
        omega
      · rw [if_neg c3]
        refine ⟨by omega, ?_⟩
        unfold kd at c3
        rw [if_neg (by omega), if_neg c, if_neg c2] at c3
        unfold sgn at c3
        by_cases q : p + 1 < n
        · omega
        · rw [if_neg q] at c3
          exfalso
          apply c3
          split
          · omega
          · split
            · rw [if_neg (by decide)]
              omega
            · decide
theorem nx_b (h : p < n) : p < nx b n p ∧ nx b n p ≤ n := by
  have h1 := te_b (b := b) h
  have h2 := rn_le (P := isS) (b := b) h1.2
  unfold nx sk
  omega
theorem kd_end : kd b n p = 31 ↔ n ≤ p := by
  refine ⟨fun h => ?_, fun h => ?_⟩
  · by_cases c : n ≤ p
    · exact c
    · unfold kd at h
      rw [if_neg c] at h
      split at h
      · rcases wi_28 (wl b n p) with q | q <;> omega
      · split at h
        · omega
        · generalize (if p + 1 < n then b (p + 1) else 0) = d at h
          unfold sgn at h
          split at h
          · omega
          · split at h
            · split at h <;> omega
            · omega
  · unfold kd
    rw [if_pos h]
theorem kd_on (h : kd b n p ≠ 31) : p < n := by
  by_cases c : n ≤ p
  · exact absurd (kd_end.mpr c) h
  · omega
theorem vl_b : ∀ (k p a : Nat), (∀ i, p ≤ i → i < p + k → isD (b i) = true) → vl b k p a < (a + 1) * 10 ^ k := by
  intro k
  induction k with
  | zero => intro p a _; show a < (a + 1) * 1; omega
  | succ k ih =>
    intro p a h
    have h1 := isD_I.mp (h p (Nat.le_refl _) (by omega))
    have h2 := ih (p + 1) (10 * a + b p - 48) (fun i x y => h i (by omega) (by omega))
    have h3 : (10 * a + b p - 48 + 1) * 10 ^ k ≤ ((a + 1) * 10) * 10 ^ k := Nat.mul_le_mul_right _ (by omega)
    rw [Nat.pow_succ, Nat.mul_comm (10 ^ k) 10, ← Nat.mul_assoc]
    exact Nat.lt_of_lt_of_le h2 h3
theorem nv_b (h : p ≤ n) (h4 : de b n p - p ≤ 4) : nv b n p < 10000 := by
  have h1 := vl_b (b := b) (de b n p - p) p 0 (fun i x y => rn_in h x (by have := (rn_le (P := isD) (b := b) h).1; unfold de at y; omega))
  have h2 : (0 + 1) * 10 ^ (de b n p - p) ≤ 10 ^ 4 := by
    rw [Nat.zero_add, Nat.one_mul]
    exact Nat.pow_le_pow_right (by decide) h4
  unfold nv
  omega
end LEX
