/-! the class's tokens -/
def chI (b : Nat → Nat) (n p : Nat) : Int32 := if p < n then nI (b p) else -nI 1
section TOKENS
variable {M : QM} {b : Nat → Nat} {n p : Nat}
theorem sX8_byteAt (T : TP1 M n b) (hn : n ≤ 400) (hp : p < 100000) : fX8_byteAt M (nI p) = some (chI b n p, M) := by
  unfold fX8_byteAt chI
  by_cases c : p < n
  · have e := T.2 p c
    simp (disch := omega) only [y_lit, y_lt_T, y_lt_F, y_le_T, y_le_F, y_eq_T, y_eq_F, y_in_T, y_cl, ↓reduceIte, y_bs, y_bvs, y_os, y_on, y_t, ne_eq, not_true_eq_false, not_false_eq_true, pk_mul, nI_add, T.1, e, c, if_true]
  · simp (disch := omega) only [y_lit, y_lt_T, y_lt_F, y_le_T, y_le_F, y_eq_T, y_eq_F, y_in_T, y_cl, ↓reduceIte, y_bs, y_bvs, y_os, y_on, y_t, ne_eq, not_true_eq_false, not_false_eq_true, pk_mul, nI_add, T.1, c, if_false]
theorem m1_neg {k : Nat} (h : k < 2147483648) : -nI 1 < nI k := by
  rw [Int32.lt_iff_toInt_lt, nI_toInt (by omega), show (-nI 1).toInt = -1 by decide]
  omega
theorem m1_ltT {k : Nat} (h : k < 2147483648) : (-nI 1 < nI k) = True := eq_true (m1_neg h)
theorem m1_leF {k : Nat} (h : k < 2147483648) : (nI k ≤ -nI 1) = False := eq_false (fun z => absurd (Int32.lt_of_lt_of_le (m1_neg h) z) (Int32.lt_irrefl))
theorem m1_eqF {k : Nat} (h : k < 2147483648) : (-nI 1 = nI k) = False := eq_false (fun z => absurd (m1_neg h) (by rw [z]; exact Int32.lt_irrefl))
theorem m1_eqG {k : Nat} (h : k < 2147483648) : (nI k = -nI 1) = False := eq_false (fun z => absurd (m1_neg h) (by rw [z]; exact Int32.lt_irrefl))
theorem sX9_isLetter (M : QM) {c : Nat} (hc : c < 256) : fX9_isLetter M (nI c) = some (nI (if isL c then 1 else 0), M) := by
  unfold fX9_isLetter
  by_cases h1 : c < 97
  · have e : isL c = false := decide_eq_false (by omega)
    simp (disch := omega) only [y_lit, y_lt_T, y_lt_F, y_le_T, y_le_F, y_eq_T, y_eq_F, y_in_T, y_cl, ↓reduceIte, y_bs, y_bvs, y_os, y_on, y_t, ne_eq, not_true_eq_false, not_false_eq_true, pk_mul, nI_add, e, if_false, Bool.false_eq_true]
  · by_cases h2 : 122 < c
    · have e : isL c = false := decide_eq_false (by omega)
      simp (disch := omega) only [y_lit, y_lt_T, y_lt_F, y_le_T, y_le_F, y_eq_T, y_eq_F, y_in_T, y_cl, ↓reduceIte, y_bs, y_bvs, y_os, y_on, y_t, ne_eq, not_true_eq_false, not_false_eq_true, pk_mul, nI_add, e, if_false, Bool.false_eq_true]
    · have e : isL c = true := decide_eq_true (by omega)
      simp (disch := omega) only [y_lit, y_lt_T, y_lt_F, y_le_T, y_le_F, y_eq_T, y_eq_F, y_in_T, y_cl, ↓reduceIte, y_bs, y_bvs, y_os, y_on, y_t, ne_eq, not_true_eq_false, not_false_eq_true, pk_mul, nI_add, e, if_true]
theorem sX9_isDigit (M : QM) {c : Nat} (hc : c < 256) : fX9_isDigit M (nI c) = some (nI (if isD c then 1 else 0), M) := by
  unfold fX9_isDigit
  by_cases h1 : c < 48
  · have e : isD c = false := decide_eq_false (by omega)
    simp (disch := omega) only [y_lit, y_lt_T, y_lt_F, y_le_T, y_le_F, y_eq_T, y_eq_F, y_in_T, y_cl, ↓reduceIte, y_bs, y_bvs, y_os, y_on, y_t, ne_eq, not_true_eq_false, not_false_eq_true, pk_mul, nI_add, e, if_false, Bool.false_eq_true]
  · by_cases h2 : 57 < c
    · have e : isD c = false := decide_eq_false (by omega)
      simp (disch := omega) only [y_lit, y_lt_T, y_lt_F, y_le_T, y_le_F, y_eq_T, y_eq_F, y_in_T, y_cl, ↓reduceIte, y_bs, y_bvs, y_os, y_on, y_t, ne_eq, not_true_eq_false, not_false_eq_true, pk_mul, nI_add, e, if_false, Bool.false_eq_true]
    · have e : isD c = true := decide_eq_true (by omega)
      simp (disch := omega) only [y_lit, y_lt_T, y_lt_F, y_le_T, y_le_F, y_eq_T, y_eq_F, y_in_T, y_cl, ↓reduceIte, y_bs, y_bvs, y_os, y_on, y_t, ne_eq, not_true_eq_false, not_false_eq_true, pk_mul, nI_add, e, if_true]
theorem sX9_isLetterO (M : QM) : fX9_isLetter M (-nI 1) = some (nI 0, M) := by
  unfold fX9_isLetter
  simp (disch := omega) only [y_lit, y_lt_T, y_lt_F, y_le_T, y_le_F, y_eq_T, y_eq_F, y_in_T, y_cl, ↓reduceIte, y_bs, y_bvs, y_os, y_on, y_t, ne_eq, not_true_eq_false, not_false_eq_true, pk_mul, nI_add, m1_ltT]
theorem sX9_isDigitO (M : QM) : fX9_isDigit M (-nI 1) = some (nI 0, M) := by
  unfold fX9_isDigit
  simp (disch := omega) only [y_lit, y_lt_T, y_lt_F, y_le_T, y_le_F, y_eq_T, y_eq_F, y_in_T, y_cl, ↓reduceIte, y_bs, y_bvs, y_os, y_on, y_t, ne_eq, not_true_eq_false, not_false_eq_true, pk_mul, nI_add, m1_ltT]
theorem sX9_wordEnd (T : TP1 M n b) (ok : tp_ok n b) : ∀ (d p f : Nat), p + d = n → d < f → fX9_wordEnd_b2 f M (nI p) = some (nI (we b n p), M) := by
  have hn := ok.1
  intro d
  induction d with
  | zero =>
    intro p f hp hf
    obtain ⟨f, rfl⟩ : ∃ p, f = p + 1 := ⟨f - 1, by omega⟩
    have e : we b n p = p := rn_e (by omega)
    rw [e, fX9_wordEnd_b2]
    by_cases c : 400 ≤ p
    · simp (disch := omega) only [y_lit, y_lt_T, y_lt_F, y_le_T, y_le_F, y_eq_T, y_eq_F, y_in_T, y_cl, ↓reduceIte, y_bs, y_bvs, y_os, y_on, y_t, ne_eq, not_true_eq_false, not_false_eq_true, pk_mul, nI_add]
    · simp (disch := omega) only [y_lit, y_lt_T, y_lt_F, y_le_T, y_le_F, y_eq_T, y_eq_F, y_in_T, y_cl, ↓reduceIte, y_bs, y_bvs, y_os, y_on, y_t, ne_eq, not_true_eq_false, not_false_eq_true, pk_mul, nI_add]
      rw [sX8_byteAt T hn (by omega), q_b_s, chI, if_neg (by omega), sX9_isLetterO, q_b_s, if_pos rfl]
  | succ d ih =>
    intro p f hp hf
    obtain ⟨f, rfl⟩ : ∃ p, f = p + 1 := ⟨f - 1, by omega⟩
    have hb := ok.2 p (by omega)
    rw [fX9_wordEnd_b2]
    simp (disch := omega) only [y_lit, y_lt_T, y_lt_F, y_le_T, y_le_F, y_eq_T, y_eq_F, y_in_T, y_cl, ↓reduceIte, y_bs, y_bvs, y_os, y_on, y_t, ne_eq, not_true_eq_false, not_false_eq_true, pk_mul, nI_add]
    rw [sX8_byteAt T hn (by omega), q_b_s, chI, if_pos (by omega), sX9_isLetter M hb, q_b_s]
    by_cases c : isL (b p) = true
    · have e : we b n p = we b n (p + 1) := rn_y (by omega) c
      rw [e, ← ih (p + 1) f (by omega) (by omega)]
      simp (disch := omega) only [y_lit, y_lt_T, y_lt_F, y_le_T, y_le_F, y_eq_T, y_eq_F, y_in_T, y_cl, ↓reduceIte, y_bs, y_bvs, y_os, y_on, y_t, ne_eq, not_true_eq_false, not_false_eq_true, pk_mul, nI_add, c, if_true]
    · have e : we b n p = p := rn_n (Bool.eq_false_iff.mpr c)
      rw [e]
      simp (disch := omega) only [y_lit, y_lt_T, y_lt_F, y_le_T, y_le_F, y_eq_T, y_eq_F, y_in_T, y_cl, ↓reduceIte, y_bs, y_bvs, y_os, y_on, y_t, ne_eq, not_true_eq_false, not_false_eq_true, pk_mul, nI_add, c, if_false, Bool.false_eq_true]
theorem sX9_numberEnd (T : TP1 M n b) (ok : tp_ok n b) : ∀ (d p f : Nat), p + d = n → d < f → fX9_numberEnd_b2 f M (nI p) = some (nI (de b n p), M) := by
  have hn := ok.1
  intro d
  induction d with
  | zero =>
    intro p f hp hf
    obtain ⟨f, rfl⟩ : ∃ p, f = p + 1 := ⟨f - 1, by omega⟩
    have e : de b n p = p := rn_e (by omega)
    rw [e, fX9_numberEnd_b2]
    by_cases c : 400 ≤ p
    · simp (disch := omega) only [y_lit, y_lt_T, y_lt_F, y_le_T, y_le_F, y_eq_T, y_eq_F, y_in_T, y_cl, ↓reduceIte, y_bs, y_bvs, y_os, y_on, y_t, ne_eq, not_true_eq_false, not_false_eq_true, pk_mul, nI_add]
    · simp (disch := omega) only [y_lit, y_lt_T, y_lt_F, y_le_T, y_le_F, y_eq_T, y_eq_F, y_in_T, y_cl, ↓reduceIte, y_bs, y_bvs, y_os, y_on, y_t, ne_eq, not_true_eq_false, not_false_eq_true, pk_mul, nI_add]
      rw [sX8_byteAt T hn (by omega), q_b_s, chI, if_neg (by omega), sX9_isDigitO, q_b_s, if_pos rfl]
  | succ d ih =>
    intro p f hp hf
    obtain ⟨f, rfl⟩ : ∃ p, f = p + 1 := ⟨f - 1, by omega⟩
    have hb := ok.2 p (by omega)
    rw [fX9_numberEnd_b2]
    simp (disch := omega) only [y_lit, y_lt_T, y_lt_F, y_le_T, y_le_F, y_eq_T, y_eq_F, y_in_T, y_cl, ↓reduceIte, y_bs, y_bvs, y_os, y_on, y_t, ne_eq, not_true_eq_false, not_false_eq_true, pk_mul, nI_add]
    rw [sX8_byteAt T hn (by omega), q_b_s, chI, if_pos (by omega), sX9_isDigit M hb, q_b_s]
    by_cases c : isD (b p) = true
    · have e : de b n p = de b n (p + 1) := rn_y (by omega) c
      rw [e, ← ih (p + 1) f (by omega) (by omega)]
      simp (disch := omega) only [y_lit, y_lt_T, y_lt_F, y_le_T, y_le_F, y_eq_T, y_eq_F, y_in_T, y_cl, ↓reduceIte, y_bs, y_bvs, y_os, y_on, y_t, ne_eq, not_true_eq_false, not_false_eq_true, pk_mul, nI_add, c, if_true]
    · have e : de b n p = p := rn_n (Bool.eq_false_iff.mpr c)
      rw [e]
      simp (disch := omega) only [y_lit, y_lt_T, y_lt_F, y_le_T, y_le_F, y_eq_T, y_eq_F, y_in_T, y_cl, ↓reduceIte, y_bs, y_bvs, y_os, y_on, y_t, ne_eq, not_true_eq_false, not_false_eq_true, pk_mul, nI_add, c, if_false, Bool.false_eq_true]
theorem sX9_numberOf_b14 (T : TP1 M n b) (hn : n ≤ 400) {q : Nat} (hq : q ≤ n) : ∀ (d p a f : Nat), p + d = q → d < f → d ≤ 4 → (a + 1) * 10 ^ d ≤ 10000 → (∀ i, p ≤ i → i < q → isD (b i) = true) → fX9_numberOf_b14 f M (nI q) (nI a) (nI p) = some (nI (vl b d p a), M) := by
  intro d
  induction d with
  | zero =>
    intro p a f hp hf _ _ _
    obtain ⟨f, rfl⟩ : ∃ p, f = p + 1 := ⟨f - 1, by omega⟩
    have e : p = q := hp
    subst e
    rw [fX9_numberOf_b14]
    simp (disch := omega) only [y_lit, y_lt_T, y_lt_F, y_le_T, y_le_F, y_eq_T, y_eq_F, y_in_T, y_cl, ↓reduceIte, y_bs, y_bvs, y_os, y_on, y_t, ne_eq, not_true_eq_false, not_false_eq_true, pk_mul, nI_add]
    rfl
  | succ d ih =>
    intro p a f hp hf h4 ha h
    obtain ⟨f, rfl⟩ : ∃ p, f = p + 1 := ⟨f - 1, by omega⟩
    have h1 := isD_I.mp (h p (Nat.le_refl _) (by omega))
    have e10 : (a + 1) * 10 ^ (d + 1) = ((a + 1) * 10) * 10 ^ d := by
      rw [Nat.pow_succ, Nat.mul_comm (10 ^ d) 10, ← Nat.mul_assoc]
    have h3 : (10 * a + b p - 48 + 1) * 10 ^ d ≤ ((a + 1) * 10) * 10 ^ d := Nat.mul_le_mul_right _ (by omega)
    have h5 : (a + 1) * 1 ≤ (a + 1) * 10 ^ (d + 1) := Nat.mul_le_mul_left _ (Nat.pow_pos (by decide))
    have es : nI (a * 10 + b p) - nI 48 = nI (10 * a + b p - 48) := by
      rw [pk_sub (by omega), show a * 10 + b p - 48 = 10 * a + b p - 48 by omega]
    have nx := ih (p + 1) (10 * a + b p - 48) f (by omega) (by omega) (by omega) (by omega) (fun i x y => h i (by omega) y)
    rw [fX9_numberOf_b14]
    simp (disch := omega) only [y_lit, y_lt_T, y_lt_F, y_le_T, y_le_F, y_eq_T, y_eq_F, y_in_T, y_cl, ↓reduceIte, y_bs, y_bvs, y_os, y_on, y_t, ne_eq, not_true_eq_false, not_false_eq_true, pk_mul, nI_add]
    rw [sX8_byteAt T hn (by omega), q_b_s, chI, if_pos (by omega)]
    simp (disch := omega) only [y_lit, y_lt_T, y_lt_F, y_le_T, y_le_F, y_eq_T, y_eq_F, y_in_T, y_cl, ↓reduceIte, y_bs, y_bvs, y_os, y_on, y_t, ne_eq, not_true_eq_false, not_false_eq_true, pk_mul, nI_add, es]
    exact nx
theorem sX9_numberOf (T : TP1 M n b) (hn : n ≤ 400) (h : p ≤ n) : fX9_numberOf M (nI p) (nI (de b n p)) = some (if de b n p - p ≤ 4 then nI (nv b n p) else -nI 1, M) := by
  obtain ⟨h1, h2⟩ := rn_le (P := isD) (b := b) h
  have h1 : p ≤ de b n p := h1
  have h2 : de b n p ≤ n := h2
  have es : nI (de b n p) - nI p = nI (de b n p - p) := pk_sub h1
  unfold fX9_numberOf
  by_cases c : de b n p - p ≤ 4
  · have f := sX9_numberOf_b14 T hn h2 (de b n p - p) p 0 q_F (by omega) (q_Fn (by omega)) c (by
      have : 10 ^ (de b n p - p) ≤ 10 ^ 4 := Nat.pow_le_pow_right (by decide) c
      omega) (fun i x y => rn_in h x y)
    simp (disch := omega) only [y_lit, y_lt_T, y_lt_F, y_le_T, y_le_F, y_eq_T, y_eq_F, y_in_T, y_cl, ↓reduceIte, y_bs, y_bvs, y_os, y_on, y_t, ne_eq, not_true_eq_false, not_false_eq_true, pk_mul, nI_add, es, c, if_true]
    exact f
  · simp (disch := omega) only [y_lit, y_lt_T, y_lt_F, y_le_T, y_le_F, y_eq_T, y_eq_F, y_in_T, y_cl, ↓reduceIte, y_bs, y_bvs, y_os, y_on, y_t, ne_eq, not_true_eq_false, not_false_eq_true, pk_mul, nI_add, es, c, if_false]
theorem sX9_signOf (M : QM) {c : Nat} (hc : c < 256) (hb : ∀ i, i < n → b i < 256) : fX9_signOf M (nI c) (chI b n (p + 1)) = some (nI (sgn c (if p + 1 < n then b (p + 1) else 0)), M) := by
  have e61 : (chI b n (p + 1) = nI 61) = ((if p + 1 < n then b (p + 1) else 0) = 61) := by
    unfold chI
    by_cases q : p + 1 < n
    · have := hb _ q
      rw [if_pos q, if_pos q, nI_eq (by omega) (by decide)]
    · rw [if_neg q, if_neg q, m1_eqF (by decide)]
      exact (eq_false (by decide)).symm
  generalize (if p + 1 < n then b (p + 1) else 0) = d at e61 ⊢
  unfold fX9_signOf sgn
  by_cases h1 : c = 43
  · simp (disch := omega) only [y_lit, y_lt_T, y_lt_F, y_le_T, y_le_F, y_eq_T, y_eq_F, y_in_T, y_cl, ↓reduceIte, y_bs, y_bvs, y_os, y_on, y_t, ne_eq, not_true_eq_false, not_false_eq_true, pk_mul, nI_add, h1, true_or, if_true]
  by_cases h2 : c = 45
  · simp (disch := omega) only [y_lit, y_lt_T, y_lt_F, y_le_T, y_le_F, y_eq_T, y_eq_F, y_in_T, y_cl, ↓reduceIte, y_bs, y_bvs, y_os, y_on, y_t, ne_eq, not_true_eq_false, not_false_eq_true, pk_mul, nI_add, h2, true_or, or_true, if_true]
  by_cases h3 : c = 59
  · simp (disch := omega) only [y_lit, y_lt_T, y_lt_F, y_le_T, y_le_F, y_eq_T, y_eq_F, y_in_T, y_cl, ↓reduceIte, y_bs, y_bvs, y_os, y_on, y_t, ne_eq, not_true_eq_false, not_false_eq_true, pk_mul, nI_add, h3, true_or, or_true, if_true]
  by_cases h4 : c = 61
  · simp (disch := omega) only [y_lit, y_lt_T, y_lt_F, y_le_T, y_le_F, y_eq_T, y_eq_F, y_in_T, y_cl, ↓reduceIte, y_bs, y_bvs, y_os, y_on, y_t, ne_eq, not_true_eq_false, not_false_eq_true, pk_mul, nI_add, h4, true_or, or_true, if_true]
  by_cases h5 : c = 91
  · simp (disch := omega) only [y_lit, y_lt_T, y_lt_F, y_le_T, y_le_F, y_eq_T, y_eq_F, y_in_T, y_cl, ↓reduceIte, y_bs, y_bvs, y_os, y_on, y_t, ne_eq, not_true_eq_false, not_false_eq_true, pk_mul, nI_add, h5, true_or, or_true, if_true]
  by_cases h6 : c = 93
  · simp (disch := omega) only [y_lit, y_lt_T, y_lt_F, y_le_T, y_le_F, y_eq_T, y_eq_F, y_in_T, y_cl, ↓reduceIte, y_bs, y_bvs, y_os, y_on, y_t, ne_eq, not_true_eq_false, not_false_eq_true, pk_mul, nI_add, h6, or_true, if_true]
  have n1 : ¬ (c = 43 ∨ c = 45 ∨ c = 59 ∨ c = 61 ∨ c = 91 ∨ c = 93) := by omega
  rw [if_neg n1]
  by_cases h7 : c = 60
  · have y7 : c = 60 ∨ c = 62 := Or.inl h7
    rw [if_pos y7]
    by_cases q : d = 61
    · simp (disch := omega) only [y_lit, y_lt_T, y_lt_F, y_le_T, y_le_F, y_eq_T, y_eq_F, y_in_T, y_cl, ↓reduceIte, y_bs, y_bvs, y_os, y_on, y_t, ne_eq, not_true_eq_false, not_false_eq_true, pk_mul, nI_add, e61, q, h7, if_true]
    · simp (disch := omega) only [y_lit, y_lt_T, y_lt_F, y_le_T, y_le_F, y_eq_T, y_eq_F, y_in_T, y_cl, ↓reduceIte, y_bs, y_bvs, y_os, y_on, y_t, ne_eq, not_true_eq_false, not_false_eq_true, pk_mul, nI_add, e61, q, h7, if_false]
  by_cases h8 : c = 62
  · have y7 : c = 60 ∨ c = 62 := Or.inr h8
    rw [if_pos y7]
    by_cases q : d = 61
    · simp (disch := omega) only [y_lit, y_lt_T, y_lt_F, y_le_T, y_le_F, y_eq_T, y_eq_F, y_in_T, y_cl, ↓reduceIte, y_bs, y_bvs, y_os, y_on, y_t, ne_eq, not_true_eq_false, not_false_eq_true, pk_mul, nI_add, e61, q, h8, if_true]
    · simp (disch := omega) only [y_lit, y_lt_T, y_lt_F, y_le_T, y_le_F, y_eq_T, y_eq_F, y_in_T, y_cl, ↓reduceIte, y_bs, y_bvs, y_os, y_on, y_t, ne_eq, not_true_eq_false, not_false_eq_true, pk_mul, nI_add, e61, q, h8, if_false]
  rw [if_neg (show ¬ (c = 60 ∨ c = 62) by omega)]
  simp (disch := omega) only [y_lit, y_lt_T, y_lt_F, y_le_T, y_le_F, y_eq_T, y_eq_F, y_in_T, y_cl, ↓reduceIte, y_bs, y_bvs, y_os, y_on, y_t, ne_eq, not_true_eq_false, not_false_eq_true, pk_mul, nI_add]
end TOKENS
