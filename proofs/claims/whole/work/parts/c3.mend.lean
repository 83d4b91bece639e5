/-! pair: mend -/
def pc (s : Nat) : Nat := s % 2 + s / 2 % 2 + s / 4 % 2 + s / 8 % 2 + s / 16 % 2 + s / 32 % 2
theorem pc_le (s : Nat) : pc s ≤ 6 := by
  unfold pc
  omega
theorem sJ_bitCount (M : QM) {s : Nat} (hs : s < 64) : fJ6_bitCount_0f7a4 M (nI s) = some (nI (pc s), M) := by
  have h : ∀ s, s < 64 → fJ6_bitCount_0f7a4 (fun _ _ => 0, fun _ _ _ => 0, fun _ _ _ => 0, fun _ _ => 0) (nI s) = some (nI (pc s), (fun _ _ => 0, fun _ _ _ => 0, fun _ _ _ => 0, fun _ _ => 0)) → fJ6_bitCount_0f7a4 M (nI s) = some (nI (pc s), M) := fun s _ e => by
    unfold fJ6_bitCount_0f7a4 at e ⊢
    simp only [y_t] at e ⊢
    have e := congrArg Prod.fst (Option.some.inj e)
    simp only [] at e
    rw [e]
  refine h s hs ?_
  have g : ∀ s, s < 64 → (fJ6_bitCount_0f7a4 (fun _ _ => 0, fun _ _ _ => 0, fun _ _ _ => 0, fun _ _ => 0) (nI s)).map Prod.fst = some (nI (pc s)) := by decide +kernel
  have g := g s hs
  unfold fJ6_bitCount_0f7a4 at g ⊢
  simp only [y_t] at g ⊢
  simp only [Option.map_some, Option.some.injEq] at g
  rw [g]
theorem pc_step : ∀ s, s < 64 → s ≠ 0 → s &&& (s - 1) < s ∧ pc s = pc (s &&& (s - 1)) + 1 := by decide +kernel
theorem sX12_bits_b4 (M : QM) : ∀ (n s : Nat), s ≤ n → s < 64 → ∀ (f x : Nat), n < f → fX12_bits_b4 f M (nI x) (nI s) = some (nI (x + pc s), M) := by
  intro n
  induction n with
  | zero =>
    intro s hs h64 f x hf
    obtain ⟨f, rfl⟩ : ∃ p, f = p + 1 := ⟨f - 1, by omega⟩
    have e : s = 0 := by omega
    subst e
    simp (disch := omega) only [fX12_bits_b4, y_lit, y_lt_T, y_lt_F, y_le_T, y_le_F, y_eq_T, y_eq_F, y_in_T, y_cl, ↓reduceIte, y_bs, y_bvs, y_os, y_on, y_t, ne_eq, not_true_eq_false, not_false_eq_true, pk_mul, nI_add]
    rfl
  | succ n ih =>
    intro s hs h64 f x hf
    obtain ⟨f, rfl⟩ : ∃ p, f = p + 1 := ⟨f - 1, by omega⟩
    by_cases c : s = 0
    · subst c
      simp (disch := omega) only [fX12_bits_b4, y_lit, y_lt_T, y_lt_F, y_le_T, y_le_F, y_eq_T, y_eq_F, y_in_T, y_cl, ↓reduceIte, y_bs, y_bvs, y_os, y_on, y_t, ne_eq, not_true_eq_false, not_false_eq_true, pk_mul, nI_add]
      rfl
    · obtain ⟨h1, h2⟩ := pc_step s h64 c
      have e1 : nI s - nI 1 = nI (s - 1) := pk_sub (by omega)
      simp (disch := omega) only [fX12_bits_b4, y_lit, y_lt_T, y_lt_F, y_le_T, y_le_F, y_eq_T, y_eq_F, y_in_T, y_cl, ↓reduceIte, y_bs, y_bvs, y_os, y_on, y_t, ne_eq, not_true_eq_false, not_false_eq_true, pk_mul, nI_add, e1, nI_and]
      rw [ih _ (by omega) (by omega) f (x + 1) (by omega), h2]
      congr 3
      omega
theorem sX12_bits (M : QM) {s : Nat} (hs : s < 64) : fX12_bits M (nI s) = some (nI (pc s), M) := by
  unfold fX12_bits
  rw [nI0, sX12_bits_b4 M s s (Nat.le_refl _) hs q_F 0 (q_Fn (by omega)), Nat.zero_add]
/-- the first sets of the fewest, as the reference finds it -/
def m_b (F : Nat → Bool) : Nat → Option Nat
  | 0 => none
  | s + 1 => match m_b F s with
    | none => if F s then some s else none
    | some b => if pc s < pc b ∧ F s = true then some s else some b
def m_I (x : Option Nat) : Int32 := match x with
  | none => -2
  | some b => nI b
theorem m_b_none {F : Nat → Bool} : ∀ {n : Nat}, m_b F n = none → ∀ s, s < n → ¬ F s = true := by
  intro n
  induction n with
  | zero => intro _ s hs; omega
  | succ n ih =>
    intro h s hs
    unfold m_b at h
    cases e : m_b F n with
    | none =>
      rw [e] at h
      have h : (if F n then some n else none) = none := h
      by_cases c : F n = true
      · rw [if_pos c] at h
        cases h
      · by_cases e2 : s = n
        · rw [e2]; exact c
        · exact ih e s (by omega)
    | some b =>
      rw [e] at h
      have h : (if pc n < pc b ∧ F n = true then some n else some b) = none := h
      split at h <;> cases h
theorem m_b_some {F : Nat → Bool} : ∀ {n b : Nat}, m_b F n = some b → b < n ∧ F b = true ∧ ∀ s, s < n → F s = true → pc b ≤ pc s ∧ (pc s = pc b → b ≤ s) := by
  intro n
  induction n with
  | zero => intro b h; cases h
  | succ n ih =>
    intro b h
    unfold m_b at h
    cases e : m_b F n with
    | none =>
      rw [e] at h
      have h : (if F n then some n else none) = some b := h
      by_cases c : F n = true
      · rw [if_pos c] at h
        cases h
        refine ⟨Nat.lt_succ_self _, c, fun s hs hF => ?_⟩
        by_cases e2 : s = n
        · subst e2
          exact ⟨Nat.le_refl _, fun _ => Nat.le_refl _⟩
        · exact absurd hF (m_b_none e s (by omega))
      · rw [if_neg c] at h
        cases h
    | some d =>
      rw [e] at h
      have h : (if pc n < pc d ∧ F n = true then some n else some d) = some b := h
      obtain ⟨i1, i2, i3⟩ := ih e
      by_cases c : pc n < pc d ∧ F n = true
      · rw [if_pos c] at h
        cases h
        refine ⟨Nat.lt_succ_self _, c.2, fun s hs hF => ?_⟩
        by_cases e2 : s = n
        · subst e2
          exact ⟨Nat.le_refl _, fun _ => Nat.le_refl _⟩
        · have := i3 s (by omega) hF
          exact ⟨by omega, fun z => by omega⟩
      · rw [if_neg c] at h
        cases h
        refine ⟨by omega, i2, fun s hs hF => ?_⟩
        by_cases e2 : s = n
        · subst e2
          exact ⟨Nat.not_lt.mp (fun z => c ⟨z, hF⟩), fun _ => by omega⟩
        · exact i3 s (by omega) hF
section MEND
variable {nc k c0 c1 : Nat} {M M1 M2 : QM} {B : BK} {Cs : Nat → CD} {E : EV}
theorem sX2_countOfBacks_b4 {o : Nat} {C : CD} (h : RC1 M o C) (ok : c_ok C) : ∀ (n i q : Nat), i + n = c_n C → n < q → fX2_countOfBacks_b4 q M o (nI 6) (nI (min 6 (c_b C i))) (nI i) = some (nI (min 6 (c_b C (c_n C))), M) := by
  have hn := ok.2.2.2.2.1
  intro n
  induction n with
  | zero =>
    intro i q hi hq
    obtain ⟨q, rfl⟩ : ∃ p, q = p + 1 := ⟨q - 1, by omega⟩
    have e : i = c_n C := hi
    subst e
    simp (disch := omega) only [fX2_countOfBacks_b4, y_lit, y_lt_T, y_lt_F, y_le_T, y_le_F, y_eq_T, y_eq_F, y_in_T, y_cl, ↓reduceIte, y_bs, y_bvs, y_os, y_on, y_t, ne_eq, not_true_eq_false, not_false_eq_true, pk_mul, nI_add, h.1]
  | succ n ih =>
    intro i q hi hq
    obtain ⟨q, rfl⟩ : ∃ p, q = p + 1 := ⟨q - 1, by omega⟩
    have hs := ok.2.2.2.2.2.2.1 i (by omega)
    have r0 := (h.2.2.2.2.1 i (by omega)).1
    have nx := ih (i + 1) q (by omega) (by omega)
    have e : c_b C (i + 1) = c_b C i + if c_s C i = 1 then 1 else 0 := rfl
    rw [e] at nx
    by_cases c : c_s C i = 1
    · rw [if_pos c] at nx
      by_cases c6 : 6 ≤ c_b C i
      · rw [Nat.min_eq_left (by omega)] at nx
        rw [Nat.min_eq_left c6]
        simp (disch := omega) only [fX2_countOfBacks_b4, fX2_countOfBacks_b36, y_lit, y_lt_T, y_lt_F, y_le_T, y_le_F, y_eq_T, y_eq_F, y_in_T, y_cl, ↓reduceIte, y_bs, y_bvs, y_os, y_on, y_t, ne_eq, not_true_eq_false, not_false_eq_true, pk_mul, nI_add, h.1, r0]
        exact nx
      · rw [Nat.min_eq_right (by omega)] at nx
        rw [Nat.min_eq_right (by omega)]
        simp (disch := omega) only [fX2_countOfBacks_b4, fX2_countOfBacks_b36, y_lit, y_lt_T, y_lt_F, y_le_T, y_le_F, y_eq_T, y_eq_F, y_in_T, y_cl, ↓reduceIte, y_bs, y_bvs, y_os, y_on, y_t, ne_eq, not_true_eq_false, not_false_eq_true, pk_mul, nI_add, h.1, r0]
        exact nx
    · rw [if_neg c, Nat.add_zero] at nx
      simp (disch := omega) only [fX2_countOfBacks_b4, fX2_countOfBacks_b36, y_lit, y_lt_T, y_lt_F, y_le_T, y_le_F, y_eq_T, y_eq_F, y_in_T, y_cl, ↓reduceIte, y_bs, y_bvs, y_os, y_on, y_t, ne_eq, not_true_eq_false, not_false_eq_true, pk_mul, nI_add, h.1, r0]
      exact nx
theorem sX2_backClauses_b7 {o : Nat} {C : CD} (h : RC1 M o C) (ok : c_ok C) {m : Nat} (hm : m < 64) : ∀ (n i q R : Nat), i + n = c_n C → n < q → R < 2 ^ i → (∀ j, j < i → R / 2 ^ j % 2 = if c_s C j = 1 then m / 2 ^ c_b C j % 2 else 0) →
    ∃ R', fX2_backClauses_b7 q M o (nI m) (nI R) (nI (c_b C i)) (nI i) = some (nI R', M) ∧ R' < 2 ^ 14 ∧ rz C m R' := by
  have hn := ok.2.2.2.2.1
  intro n
  induction n with
  | zero =>
    intro i q R hi hq hR hb
    obtain ⟨q, rfl⟩ : ∃ p, q = p + 1 := ⟨q - 1, by omega⟩
    have e : i = c_n C := hi
    subst e
    refine ⟨R, ?_, Nat.lt_of_lt_of_le hR (Nat.pow_le_pow_right (by decide) hn), hb⟩
    simp (disch := omega) only [fX2_backClauses_b7, y_lit, y_lt_T, y_lt_F, y_le_T, y_le_F, y_eq_T, y_eq_F, y_in_T, y_cl, ↓reduceIte, y_bs, y_bvs, y_os, y_on, y_t, ne_eq, not_true_eq_false, not_false_eq_true, pk_mul, nI_add, h.1]
  | succ n ih =>
    intro i q R hi hq hR hb
    obtain ⟨q, rfl⟩ : ∃ p, q = p + 1 := ⟨q - 1, by omega⟩
    have hs := ok.2.2.2.2.2.2.1 i (by omega)
    have r0 := (h.2.2.2.2.1 i (by omega)).1
    have e : c_b C (i + 1) = c_b C i + if c_s C i = 1 then 1 else 0 := rfl
    have hbl := c_b_le C i
    have hps : 2 ^ (i + 1) = 2 ^ i * 2 := Nat.pow_succ 2 i
    have low : ∀ (v : Nat), v < 2 → ∀ j, j < i → (R + v * 2 ^ i) / 2 ^ j % 2 = R / 2 ^ j % 2 := fun v hv j hj => by
      have e1 : v * 2 ^ i = 2 ^ i * v := Nat.mul_comm _ _
      rw [bb_t, bb_t, Nat.add_comm, e1, Nat.two_pow_add_eq_or_of_lt hR, Nat.testBit_or, Nat.testBit_two_pow_mul, decide_eq_false (by omega)]
      rfl
    have top : ∀ (v : Nat), v < 2 → (R + v * 2 ^ i) / 2 ^ i % 2 = v := fun v hv => by
      rw [Nat.add_mul_div_right _ _ (Nat.two_pow_pos i), Nat.div_eq_of_lt hR]
      omega
    by_cases c : c_s C i = 1
    · rw [if_pos c] at e
      have hv : m / 2 ^ c_b C i % 2 < 2 := Nat.mod_lt _ (by decide)
      have hsh : ∀ k, k < 31 → ((nI k &&& nI 31).toBitVec.smod 32).toNat = k := by decide
      have hp14 : 2 ^ i ≤ 2 ^ 14 := Nat.pow_le_pow_right (by decide) (by omega)
      have hmul : m / 2 ^ c_b C i % 2 * 2 ^ i ≤ 2 ^ i := by
        have := Nat.mul_le_mul_right (2 ^ i) (show m / 2 ^ c_b C i % 2 ≤ 1 by omega)
        omega
      have e1 : nI (m / 2 ^ c_b C i % 2) <<< (nI i &&& nI 31) = nI (m / 2 ^ c_b C i % 2 * 2 ^ i) := pk_shlN _ i (hsh i (by omega)) (by omega)
      obtain ⟨R', f1, f2, f3⟩ := ih (i + 1) q (R + m / 2 ^ c_b C i % 2 * 2 ^ i) (by omega) (by omega) (by omega) (fun j hj => by
        by_cases e2 : j = i
        · subst e2
          rw [top _ hv, if_pos c]
        · rw [low _ hv j (by omega)]
          exact hb j (by omega))
      rw [e] at f1
      refine ⟨R', ?_, f2, f3⟩
      simp (disch := omega) only [fX2_backClauses_b7, fX2_backClauses_b48, y_lit, y_lt_T, y_lt_F, y_le_T, y_le_F, y_eq_T, y_eq_F, y_in_T, y_cl, ↓reduceIte, y_bs, y_bvs, y_os, y_on, y_t, ne_eq, not_true_eq_false, not_false_eq_true, pk_mul, nI_add, h.1, r0, y_bit, e1]
      rw [nI_orS hR]
      exact f1
    · rw [if_neg c, Nat.add_zero] at e
      obtain ⟨R', f1, f2, f3⟩ := ih (i + 1) q R (by omega) (by omega) (by omega) (fun j hj => by
        by_cases e2 : j = i
        · subst e2
          rw [if_neg c, Nat.div_eq_of_lt hR]
        · exact hb j (by omega))
      rw [e] at f1
      refine ⟨R', ?_, f2, f3⟩
      simp (disch := omega) only [fX2_backClauses_b7, fX2_backClauses_b48, y_lit, y_lt_T, y_lt_F, y_le_T, y_le_F, y_eq_T, y_eq_F, y_in_T, y_cl, ↓reduceIte, y_bs, y_bvs, y_os, y_on, y_t, ne_eq, not_true_eq_false, not_false_eq_true, pk_mul, nI_add, h.1, r0]
      exact f1
theorem sX2_backClauses {o : Nat} {C : CD} (h : RC1 M o C) (ok : c_ok C) {m : Nat} (hm : m < 64) : ∃ R, fX2_backClauses M o (nI m) = some (nI R, M) ∧ R < 2 ^ 14 ∧ rz C m R := by
  unfold fX2_backClauses
  rw [nI0]
  exact sX2_backClauses_b7 h ok hm (c_n C) 0 q_F 0 (by omega) (q_Fn (by have := ok.2.2.2.2.1; omega)) (by decide) (fun j hj => absurd hj (Nat.not_lt_zero j))
/-- the reference counts the back clauses -/
theorem sX12_mend_b51 {t : Nat} {C : CD} (h : RC2 M t C) (ok : c_ok C) (ht : t < 6) {x2 x3 x4 x5 : Int32} : ∀ (n i q : Nat), i + n = c_n C → n < q → fX12_mend_b51 q M (nI t) x2 x3 x4 x5 (nI (min 6 (c_b C i))) (nI (c_w C i)) = fX12_mend_b103 M (nI t) x2 x3 x4 x5 (nI (min 6 (c_b C (c_n C)))) := by
  have hn := ok.2.2.2.2.1
  intro n
  induction n with
  | zero =>
    intro i q hi hq
    obtain ⟨q, rfl⟩ : ∃ p, q = p + 1 := ⟨q - 1, by omega⟩
    have e : i = c_n C := hi
    subst e
    have hw := c_w_le C (c_n C)
    simp (disch := omega) only [fX12_mend_b51, y_lit, y_lt_T, y_lt_F, y_le_T, y_le_F, y_eq_T, y_eq_F, y_in_T, y_cl, ↓reduceIte, y_bs, y_bvs, y_os, y_on, y_t, ne_eq, not_true_eq_false, not_false_eq_true, pk_mul, nI_add, h.2.2.2.2.1]
  | succ n ih =>
    intro i q hi hq
    have hi2 : i < c_n C := by omega
    have hs := ok.2.2.2.2.2.2.1 i hi2
    have e_b : c_b C (i + 1) = c_b C i + if c_s C i = 1 then 1 else 0 := rfl
    have e_w : c_w C (i + 1) = c_w C i + if c_s C i < 3 then 1 else 0 := rfl
    by_cases c3 : c_s C i < 3
    · obtain ⟨q, rfl⟩ : ∃ p, q = p + 1 := ⟨q - 1, by omega⟩
      have nx := ih (i + 1) q (by omega) (by omega)
      obtain ⟨r0, -⟩ := h.2.2.2.2.2.1 i hi2 c3
      have hw := c_w_lt c3 hi2
      have hwl := c_w_le C (c_n C)
      rw [if_pos c3] at e_w
      rw [e_w, e_b] at nx
      by_cases c : c_s C i = 1
      · rw [if_pos c] at nx
        by_cases c6 : 6 ≤ c_b C i
        · rw [Nat.min_eq_left (by omega)] at nx
          rw [Nat.min_eq_left c6]
          simp (disch := omega) only [fX12_mend_b51, fX12_mend_b93, fX12_mend_b94, y_lit, y_lt_T, y_lt_F, y_le_T, y_le_F, y_eq_T, y_eq_F, y_in_T, y_cl, ↓reduceIte, y_bs, y_bvs, y_os, y_on, y_t, ne_eq, not_true_eq_false, not_false_eq_true, pk_mul, nI_add, h.2.2.2.2.1, r0, Nat.add_zero]
          exact nx
        · rw [Nat.min_eq_right (by omega)] at nx
          rw [Nat.min_eq_right (by omega)]
          simp (disch := omega) only [fX12_mend_b51, fX12_mend_b93, fX12_mend_b94, y_lit, y_lt_T, y_lt_F, y_le_T, y_le_F, y_eq_T, y_eq_F, y_in_T, y_cl, ↓reduceIte, y_bs, y_bvs, y_os, y_on, y_t, ne_eq, not_true_eq_false, not_false_eq_true, pk_mul, nI_add, h.2.2.2.2.1, r0]
          exact nx
      · rw [if_neg c, Nat.add_zero] at nx
        simp (disch := omega) only [fX12_mend_b51, fX12_mend_b93, fX12_mend_b94, y_lit, y_lt_T, y_lt_F, y_le_T, y_le_F, y_eq_T, y_eq_F, y_in_T, y_cl, ↓reduceIte, y_bs, y_bvs, y_os, y_on, y_t, ne_eq, not_true_eq_false, not_false_eq_true, pk_mul, nI_add, h.2.2.2.2.1, r0, Nat.add_zero]
        exact nx
    · rw [if_neg c3] at e_w
      rw [if_neg (by omega)] at e_b
      have nx := ih (i + 1) q (by omega) (by omega)
      rw [e_w, e_b] at nx
      exact nx
/-- does a set keep the quarrel from the field -/
def m_F (B : BK) (p : Nat × Nat × Nat) (C : CD) (kind s : Nat) : Bool := decide (¬ (v_G (B, p, (C, C), s) (v_1 (B, p, (C, C), s) kind true)).2 = 8)
theorem m_v {p : Nat × Nat × Nat} {C : CD} {m s : Nat} (h : v_ok nc (B, p, (C, C), m)) (hs : s < 64) : v_ok nc (B, p, (C, C), s) := ⟨h.1, h.2.1, h.2.2.1, h.2.2.2.1, h.2.2.2.2.1, h.2.2.2.2.2.1, h.2.2.2.2.2.2.1, hs⟩
/-- the reference's loop over the sets -/
theorem sX12_mend_b110 {c p0 p1 d kind nb : Nat} (hv : v_ok nc (B, (p0, p1, d), (Cs c, Cs c), 0)) (hc : c < nc) (hn : nc ≤ 6) (hk : kind < 4) (hnb : nb ≤ 6) (hR : RM2 M B) (hC : ∀ k, k < nc → RC2 M k (Cs k)) : ∀ (n s q : Nat) (N : QM), s + n = 2 ^ nb → n < q → kp (fun a j => S2 a j ∨ (a = 1000 ∧ j = 25)) M N →
    qW (fX12_mend_b110 q N (nI c) (nI p0) (nI p1) (nI d) (nI kind) (nI nb) (m_I (m_b (m_F B (p0, p1, d) (Cs c) kind) s)) (nI s)) (fun r N1 => r = m_I (m_b (m_F B (p0, p1, d) (Cs c) kind) (2 ^ nb)) ∧ q_i N1 1000 25 = nI 0 ∧ kp (fun a j => S2 a j ∨ (a = 1000 ∧ j = 25)) M N1) := by
  have hp : 2 ^ nb ≤ 64 := Nat.pow_le_pow_right (n := 2) (by decide) hnb
  have e1 : nI 1 <<< (nI nb &&& nI 31) = nI (2 ^ nb) := bit31 nb (by omega)
  intro n
  induction n with
  | zero =>
    intro s q N hs hq kN
    obtain ⟨q, rfl⟩ : ∃ p, q = p + 1 := ⟨q - 1, by omega⟩
    have e : s = 2 ^ nb := hs
    subst e
    simp (disch := omega) only [fX12_mend_b110, fX12_mend_b170, y_lit, y_lt_T, y_lt_F, y_le_T, y_le_F, y_eq_T, y_eq_F, y_in_T, y_cl, ↓reduceIte, y_bs, y_bvs, y_os, y_on, y_t, ne_eq, not_true_eq_false, not_false_eq_true, pk_mul, nI_add, e1]
    refine qW_s ⟨rfl, ?_, kN.tr (kp_i (Or.inr ⟨rfl, rfl⟩))⟩
    rw [q_i_p_i, if_pos ⟨rfl, rfl⟩]
  | succ n ih =>
    intro s q N hs hq kN
    obtain ⟨q, rfl⟩ : ∃ p, q = p + 1 := ⟨q - 1, by omega⟩
    have hs64 : s < 64 := by omega
    have no25 : ∀ j, (S2 1000 j ∨ (1000 = 1000 ∧ j = 25)) → j ≠ 0 ∧ j ≠ 1 ∧ j ≠ 2 ∧ j ≠ 42 ∧ j ≠ 43 := fun j z => by unfold S2 at z; omega
    have go : ∀ (x : Option Nat), m_b (m_F B (p0, p1, d) (Cs c) kind) (s + 1) = x → ∀ N1, kp (fun a j => S2 a j ∨ (a = 1000 ∧ j = 25)) M N1 → qW (fX12_mend_b164 (fun M x1 x2 x3 x4 x5 x6 x7 x8 => fX12_mend_b110 q M x1 x2 x3 x4 x5 x6 x7 x8) N1 (nI c) (nI p0) (nI p1) (nI d) (nI kind) (nI nb) (m_I x) (nI s)) (fun r N1 => r = m_I (m_b (m_F B (p0, p1, d) (Cs c) kind) (2 ^ nb)) ∧ q_i N1 1000 25 = nI 0 ∧ kp (fun a j => S2 a j ∨ (a = 1000 ∧ j = 25)) M N1) := fun x ex N1 k1 => by
      subst ex
      unfold fX12_mend_b164
      simp only [y_lit, nI_add]
      exact ih (s + 1) q N1 (by omega) (by omega) k1
    -- a set is tried
    have tried : ∀ x7 : Int32, (m_F B (p0, p1, d) (Cs c) kind s = true → m_b (m_F B (p0, p1, d) (Cs c) kind) (s + 1) = some s) → (¬ m_F B (p0, p1, d) (Cs c) kind s = true → m_I (m_b (m_F B (p0, p1, d) (Cs c) kind) (s + 1)) = x7) → qW (fX12_mend_b140 (fun M x1 x2 x3 x4 x5 x6 x7 x8 => fX12_mend_b110 q M x1 x2 x3 x4 x5 x6 x7 x8) N (nI c) (nI p0) (nI p1) (nI d) (nI kind) (nI nb) x7 (nI s)) (fun r N1 => r = m_I (m_b (m_F B (p0, p1, d) (Cs c) kind) (2 ^ nb)) ∧ q_i N1 1000 25 = nI 0 ∧ kp (fun a j => S2 a j ∨ (a = 1000 ∧ j = 25)) M N1) := fun x7 hy hn2 => by
      have kA : kp (fun a j => S2 a j ∨ (a = 1000 ∧ j = 25)) M (p_i N 1000 25 (nI s)) := kN.tr (kp_i (Or.inr ⟨rfl, rfl⟩))
      obtain ⟨_, N3, e3, rfl, k3⟩ := sX12_endsInField (M := p_i N 1000 25 (nI s)) (m := s) (kind := kind) ⟨hR.kept kA no25, fun k hk => (hC k hk).kept (kA.wd (fun a j z => by unfold S2 at z; omega))⟩ (m_v hv hs64) hc hn (by rw [q_i_p_i, if_pos ⟨rfl, rfl⟩]) hk
      have kk : kp (fun a j => S2 a j ∨ (a = 1000 ∧ j = 25)) M N3 := kA.tr (k3.wd (fun _ _ z => Or.inl z))
      unfold fX12_mend_b140
      simp (disch := omega) only [y_t]
      rw [e3, q_b_s]
      by_cases cu : (v_G (B, (p0, p1, d), (Cs c, Cs c), s) (v_1 (B, (p0, p1, d), (Cs c, Cs c), s) kind true)).2 = 8
      · have nF : ¬ m_F B (p0, p1, d) (Cs c) kind s = true := fun z => (of_decide_eq_true z) cu
        rw [if_pos cu, if_pos (by decide), ← hn2 nF]
        exact go _ rfl N3 kk
      · have yF : m_F B (p0, p1, d) (Cs c) kind s = true := decide_eq_true cu
        rw [if_neg cu, if_neg (by decide)]
        exact go _ (hy yF) N3 kk
    have eM : m_b (m_F B (p0, p1, d) (Cs c) kind) (s + 1) = match m_b (m_F B (p0, p1, d) (Cs c) kind) s with
      | none => if m_F B (p0, p1, d) (Cs c) kind s then some s else none
      | some b => if pc s < pc b ∧ m_F B (p0, p1, d) (Cs c) kind s = true then some s else some b := rfl
    rw [fX12_mend_b110]
    simp (disch := omega) only [y_lit, e1, y_le_F, ↓reduceIte]
    cases eB : m_b (m_F B (p0, p1, d) (Cs c) kind) s with
    | none =>
      rw [eB] at eM
      have eM : m_b (m_F B (p0, p1, d) (Cs c) kind) (s + 1) = if m_F B (p0, p1, d) (Cs c) kind s then some s else none := eM
      rw [if_pos (show m_I none < nI 0 by decide)]
      exact tried _ (fun y => by rw [eM, if_pos y]) (fun y => by rw [eM, if_neg y])
    | some b =>
      rw [eB] at eM
      have eM : m_b (m_F B (p0, p1, d) (Cs c) kind) (s + 1) = if pc s < pc b ∧ m_F B (p0, p1, d) (Cs c) kind s = true then some s else some b := eM
      have hb := (m_b_some eB).1
      have p1 := pc_le s
      have p2 := pc_le b
      rw [if_neg (show ¬ m_I (some b) < nI 0 from nI_pos (by omega)), sX12_bits N hs64, q_b_s, show m_I (some b) = nI b from rfl, sX12_bits N (show b < 64 by omega), q_b_s]
      by_cases cc : pc s < pc b
      · rw [if_pos (nI_lt cc (by omega))]
        exact tried _ (fun y => by rw [eM, if_pos ⟨cc, y⟩]) (fun y => by rw [eM, if_neg (fun z => y z.2)]; rfl)
      · rw [if_neg (nI_nlt (by omega) (by omega))]
        exact go (some b) (by rw [eM, if_neg (fun z => cc z.1)]) N kN
/-- the class's loops: by size, then by number -/
theorem sX11_mend_b90 {a g c p0 p1 d kind nb z : Nat} (hv : v_ok nc (B, (p0, p1, d), (Cs c, Cs c), 0)) (hc : c < 6) (hk : kind < 4) (hnb : nb ≤ 6) (hz : z ≤ 6) (ha : a < 2000000000) (hg : g < 900000) {K : QM → Int32 → Nat → Int32 → Int32 → Option (Int32 × QM)}
    (hK : ∀ N g', g' ≤ g + 64 → (∃ m, AF N (B, (p0, p1, d), (Cs c, Cs c), m) c c) → MA N a → MG N g' → kp (fun x j => SG x j ∨ x = 4 ∨ x = 5) M N → (∀ s, s < 2 ^ nb → pc s = z → ¬ m_F B (p0, p1, d) (Cs c) kind s = true) →
      qW (K N (nI kind) (10 + c) (nI (2 ^ nb)) (nI (z + 1))) (fun r N1 => r = m_I (m_b (m_F B (p0, p1, d) (Cs c) kind) (2 ^ nb)) ∧ MA N1 a ∧ (∃ g', g' ≤ g + 64 * (7 - z) ∧ MG N1 g') ∧ kp (fun x j => SG x j ∨ x = 4 ∨ x = 5) M N1))
    (hlow : ∀ s, s < 2 ^ nb → pc s < z → ¬ m_F B (p0, p1, d) (Cs c) kind s = true) : ∀ (n s q g' : Nat) (N : QM), s + n = 2 ^ nb → n < q → g' ≤ g + s → (∃ m, AF N (B, (p0, p1, d), (Cs c, Cs c), m) c c) → MA N a → MG N g' → kp (fun x j => SG x j ∨ x = 4 ∨ x = 5) M N → (∀ t, t < s → pc t = z → ¬ m_F B (p0, p1, d) (Cs c) kind t = true) →
    qW (fX11_mend_b90 K q N (nI kind) (10 + c) (nI (2 ^ nb)) (nI z) (nI s)) (fun r N1 => r = m_I (m_b (m_F B (p0, p1, d) (Cs c) kind) (2 ^ nb)) ∧ MA N1 a ∧ (∃ g', g' ≤ g + 64 * (7 - z) ∧ MG N1 g') ∧ kp (fun x j => SG x j ∨ x = 4 ∨ x = 5) M N1) := by
  have hp : 2 ^ nb ≤ 64 := Nat.pow_le_pow_right (n := 2) (by decide) hnb
  intro n
  induction n with
  | zero =>
    intro s q g' N hs hq hg' A mA G kN hno
    obtain ⟨q, rfl⟩ : ∃ p, q = p + 1 := ⟨q - 1, by omega⟩
    have e : s = 2 ^ nb := hs
    subst e
    rw [fX11_mend_b90]
    simp (disch := omega) only [y_lit, y_lt_T, y_lt_F, y_le_T, y_le_F, y_eq_T, y_eq_F, y_in_T, y_cl, ↓reduceIte, y_bs, y_bvs, y_os, y_on, y_t, ne_eq, not_true_eq_false, not_false_eq_true, pk_mul, nI_add, fX11_mend_b163]
    exact hK N g' (by omega) A mA G kN hno
  | succ n ih =>
    intro s q g' N hs hq hg' A mA G kN hno
    obtain ⟨q, rfl⟩ : ∃ p, q = p + 1 := ⟨q - 1, by omega⟩
    have hs64 : s < 64 := by omega
    have p1' := pc_le s
    have next : ∀ g2 N1, g2 ≤ g + (s + 1) → (∃ m, AF N1 (B, (p0, p1, d), (Cs c, Cs c), m) c c) → MA N1 a → MG N1 g2 → kp (fun x j => SG x j ∨ x = 4 ∨ x = 5) M N1 → (pc s = z → ¬ m_F B (p0, p1, d) (Cs c) kind s = true) → qW (fX11_mend_b157 (fun M x5 o6 x7 x8 x9 => fX11_mend_b90 K q M x5 o6 x7 x8 x9) K N1 (nI kind) (10 + c) (nI (2 ^ nb)) (nI z) (nI s)) (fun r N1 => r = m_I (m_b (m_F B (p0, p1, d) (Cs c) kind) (2 ^ nb)) ∧ MA N1 a ∧ (∃ g', g' ≤ g + 64 * (7 - z) ∧ MG N1 g') ∧ kp (fun x j => SG x j ∨ x = 4 ∨ x = 5) M N1) := fun g2 N1 hg2 A1 m1 G1 k1 hs1 => by
      unfold fX11_mend_b157
      simp only [y_lit, nI_add]
      exact ih (s + 1) q g2 N1 (by omega) (by omega) hg2 A1 m1 G1 k1 (fun t ht htz => by
        by_cases e : t = s
        · subst e
          exact hs1 htz
        · exact hno t (by omega) htz)
    rw [fX11_mend_b90]
    simp (disch := omega) only [y_lit, y_lt_T, y_lt_F, y_le_T, y_le_F, y_eq_T, y_eq_F, y_in_T, y_cl, ↓reduceIte, y_bs, y_bvs, y_os, y_on, y_t, ne_eq, not_true_eq_false, not_false_eq_true, pk_mul, nI_add]
    rw [sJ_bitCount N hs64]
    by_cases cz : pc s = z
    · obtain ⟨m, A⟩ := A
      have hRC := A.2.2.2.2.1 0 (by decide)
      have hRC : RC1 N (10 + c) (Cs c) := hRC
      have okc : c_ok (Cs c) := hv.2.2.2.2.2.1
      obtain ⟨R, e1, hR, hrz⟩ := sX2_backClauses hRC okc hs64
      have A1 : AF (p_i N 4 5 (nI R)) (B, (p0, p1, d), (Cs c, Cs c), s) c c := A.raise hR (fun k hk => by
        match k, hk with
        | 0, _ => exact hrz
        | 1, _ => exact hrz)
      have k1 : kp (fun x j => x = 4 ∧ j = 5) N (p_i N 4 5 (nI R)) := kp_i ⟨rfl, rfl⟩
      have m1 := mA.kept k1 (by decide) (by decide)
      obtain ⟨N2, e2, G2, k2⟩ := sX3_begin (G.kept k1 (fun j z => by omega)) (by omega) (B, (p0, p1, d), (Cs c, Cs c), s)
      have hvs := m_v hv hs64
      obtain ⟨_, N3, e3, rfl, A3, m3, k3⟩ := sX0_open hvs (A1.kept k2 (fun x j z => Or.inl z.1)) (m1.kept k2 (by decide) (by decide)) hk true
      have hw := v_1w hvs kind true
      obtain ⟨_, N4, e4, rfl, A4, m4, G4, k4⟩ := sX3_outcomeFrom hvs ha (by omega) hw A3 m3 (G2.kept k3 (fun j z => by unfold SA at z; omega))
      have kk : kp (fun x j => SG x j ∨ x = 4 ∨ x = 5) M N4 := (((kN.tr (k1.wd (fun x j z => Or.inr (Or.inl z.1)))).tr (k2.wd (fun x j z => Or.inr (Or.inr z.1)))).tr (k3.wd (fun x j z => Or.inl (Or.inl z)))).tr (k4.wd (fun x j z => Or.inl z))
      have l2 := (v_G_lt hvs hw).2
      have e3' : fX0_open N2 (nI kind) (nI 1) = some (s_p (v_1 (B, (p0, p1, d), (Cs c, Cs c), s) kind true), N3) := e3
      simp (disch := omega) only [y_lit, y_lt_T, y_lt_F, y_le_T, y_le_F, y_eq_T, y_eq_F, y_in_T, y_cl, ↓reduceIte, y_bs, y_bvs, y_os, y_on, y_t, ne_eq, not_true_eq_false, not_false_eq_true, pk_mul, nI_add]
      rw [e1]
      simp (disch := omega) only [y_lit, y_lt_T, y_lt_F, y_le_T, y_le_F, y_eq_T, y_eq_F, y_in_T, y_cl, ↓reduceIte, y_bs, y_bvs, y_os, y_on, y_t, ne_eq, not_true_eq_false, not_false_eq_true, pk_mul, nI_add]
      rw [e2]
      simp (disch := omega) only [y_lit, y_lt_T, y_lt_F, y_le_T, y_le_F, y_eq_T, y_eq_F, y_in_T, y_cl, ↓reduceIte, y_bs, y_bvs, y_os, y_on, y_t, ne_eq, not_true_eq_false, not_false_eq_true, pk_mul, nI_add]
      rw [e3']
      simp (disch := omega) only [y_lit, y_lt_T, y_lt_F, y_le_T, y_le_F, y_eq_T, y_eq_F, y_in_T, y_cl, ↓reduceIte, y_bs, y_bvs, y_os, y_on, y_t, ne_eq, not_true_eq_false, not_false_eq_true, pk_mul, nI_add]
      rw [e4]
      by_cases cu : (v_G (B, (p0, p1, d), (Cs c, Cs c), s) (v_1 (B, (p0, p1, d), (Cs c, Cs c), s) kind true)).2 = 8
      · have nF : ¬ m_F B (p0, p1, d) (Cs c) kind s = true := fun z => (of_decide_eq_true z) cu
        simp (disch := omega) only [y_lit, y_lt_T, y_lt_F, y_le_T, y_le_F, y_eq_T, y_eq_F, y_in_T, y_cl, ↓reduceIte, y_bs, y_bvs, y_os, y_on, y_t, ne_eq, not_true_eq_false, not_false_eq_true, pk_mul, nI_add, cu]
        exact next (g' + 1) N4 (by omega) ⟨s, A4⟩ m4 G4.m kk (fun _ => nF)
      · have yF : m_F B (p0, p1, d) (Cs c) kind s = true := decide_eq_true cu
        simp (disch := omega) only [y_lit, y_lt_T, y_lt_F, y_le_T, y_le_F, y_eq_T, y_eq_F, y_in_T, y_cl, ↓reduceIte, y_bs, y_bvs, y_os, y_on, y_t, ne_eq, not_true_eq_false, not_false_eq_true, pk_mul, nI_add]
        have eb : m_b (m_F B (p0, p1, d) (Cs c) kind) (2 ^ nb) = some s := by
          cases e : m_b (m_F B (p0, p1, d) (Cs c) kind) (2 ^ nb) with
          | none => exact absurd yF (m_b_none e s (by omega))
          | some b =>
            obtain ⟨b1, b2, b3⟩ := m_b_some e
            have h1 := b3 s (by omega) yF
            by_cases cl : pc b < z
            · exact absurd b2 (hlow b b1 cl)
            · have e5 : pc b = z := by omega
              by_cases c5 : b < s
              · exact absurd b2 (hno b c5 e5)
              · have := h1.2 (by omega)
                rw [show b = s by omega]
        refine qW_s ⟨by rw [eb]; rfl, m4, ⟨g' + 1, by omega, G4.m⟩, kk⟩
    · simp (disch := omega) only [y_lit, y_lt_T, y_lt_F, y_le_T, y_le_F, y_eq_T, y_eq_F, y_in_T, y_cl, ↓reduceIte, y_bs, y_bvs, y_os, y_on, y_t, ne_eq, not_true_eq_false, not_false_eq_true, pk_mul, nI_add]
      exact next g' N (by omega) A mA G kN (fun z => absurd z cz)
theorem sX11_mend_b80 {a g c p0 p1 d kind nb : Nat} (hv : v_ok nc (B, (p0, p1, d), (Cs c, Cs c), 0)) (hc : c < 6) (hk : kind < 4) (hnb : nb ≤ 6) (ha : a < 2000000000) : ∀ (n z q g' : Nat) (N : QM), z + n = 7 → n < q → g' ≤ g + 64 * z → g < 800000 → (∃ m, AF N (B, (p0, p1, d), (Cs c, Cs c), m) c c) → MA N a → MG N g' → (∀ s, s < 2 ^ nb → pc s < z → ¬ m_F B (p0, p1, d) (Cs c) kind s = true) →
    qW (fX11_mend_b80 q N (nI kind) (10 + c) (nI (2 ^ nb)) (nI z)) (fun r N1 => r = m_I (m_b (m_F B (p0, p1, d) (Cs c) kind) (2 ^ nb)) ∧ MA N1 a ∧ (∃ g'', g'' ≤ g' + 64 * (7 - z) ∧ MG N1 g'') ∧ kp (fun x j => SG x j ∨ x = 4 ∨ x = 5) N N1) := by
  intro n
  induction n with
  | zero =>
    intro z q g' N hz hq hg' hg A mA G hno
    obtain ⟨q, rfl⟩ : ∃ p, q = p + 1 := ⟨q - 1, by omega⟩
    have e : z = 7 := hz
    subst e
    have eb : m_b (m_F B (p0, p1, d) (Cs c) kind) (2 ^ nb) = none := by
      cases e : m_b (m_F B (p0, p1, d) (Cs c) kind) (2 ^ nb) with
      | none => rfl
      | some b =>
        obtain ⟨b1, b2, b3⟩ := m_b_some e
        exact absurd b2 (hno b b1 (by have := pc_le b; omega))
    rw [fX11_mend_b80]
    simp (disch := omega) only [y_lit, y_lt_T, y_lt_F, y_le_T, y_le_F, y_eq_T, y_eq_F, y_in_T, y_cl, ↓reduceIte, y_bs, y_bvs, y_os, y_on, y_t, ne_eq, not_true_eq_false, not_false_eq_true, pk_mul, nI_add, eb]
    exact qW_s ⟨rfl, mA, ⟨g', by omega, G⟩, kp.rf⟩
  | succ n ih =>
    intro z q g' N hz hq hg' hg A mA G hno
    obtain ⟨q, rfl⟩ : ∃ p, q = p + 1 := ⟨q - 1, by omega⟩
    have hp : 2 ^ nb ≤ 64 := Nat.pow_le_pow_right (n := 2) (by decide) hnb
    rw [fX11_mend_b80]
    simp (disch := omega) only [y_lit, y_lt_F, ↓reduceIte]
    refine sX11_mend_b90 (M := N) (g := g') hv hc hk hnb (by omega) ha (by omega) (fun N2 g2 h2 A2 m2 G2 k2 hno2 => ?_) hno (2 ^ nb) 0 q_F g' N (by omega) (q_Fn (by omega)) (by omega) A mA G kp.rf (fun t ht => absurd ht (Nat.not_lt_zero t))
    obtain ⟨r, N3, e3, r1, r2, ⟨g3, r3, r4⟩, r5⟩ := ih (z + 1) q g2 N2 (by omega) (by omega) (by omega) hg A2 m2 G2 (fun s hs hps => by
      by_cases e : pc s = z
      · exact hno2 s hs e
      · exact hno s hs (by omega))
    exact ⟨r, N3, e3, r1, r2, ⟨g3, by omega, r4⟩, k2.tr r5⟩
theorem pair_mend (h1 : K1 M1 nc B Cs) (h2 : K2 M2 nc B Cs) (ok : KO nc B Cs) (hM : MK M1 k) (hk : k < 1000) (x1 x2 x3 x4 x5 : Int32) : ∃ r N1 N2, fX11_mend M1 x1 x2 x3 x4 x5 = some (r, N1) ∧ fX12_mend M2 x1 x2 x3 x4 x5 = some (r, N2) ∧ kp S5 M1 N1 ∧ kp (fun a j => S2 a j ∨ (a = 1000 ∧ j = 25)) M2 N2 ∧ q_i N2 1000 25 = nI 0 ∧ MK N1 (k + 1) := by
  have h6 := ok.2.1
  have h12 := ok.1.1
  have no : fX11_mend M1 x1 x2 x3 x4 x5 = some (-nI 1, M1) → fX12_mend M2 x1 x2 x3 x4 x5 = some (-nI 1, M2) → ∃ r N1 N2, fX11_mend M1 x1 x2 x3 x4 x5 = some (r, N1) ∧ fX12_mend M2 x1 x2 x3 x4 x5 = some (r, N2) ∧ kp S5 M1 N1 ∧ kp (fun a j => S2 a j ∨ (a = 1000 ∧ j = 25)) M2 N2 ∧ q_i N2 1000 25 = nI 0 ∧ MK N1 (k + 1) := fun e1 e2 => ⟨_, _, _, e1, e2, kp.rf, kp.rf, h2.2.2.2, hM.up⟩
  rcases q_out_or x1 (n := nc) (by omega) with ox | ⟨c, hc, rfl⟩
  · refine no ?_ ?_
    · unfold fX11_mend
      rw [sX11_hasCodeO h1.2.2 ox, q_b_s, if_pos (by decide)]
      rfl
    · unfold fX12_mend
      rw [sX12_isCodeO h2.2.2.1 ox, q_b_s, if_pos (by decide)]
      rfl
  have g1 := sX11_hasCode h1.2.2 h6 hc
  have g2 := sX12_isCode h2.2.2.1 h6 hc
  by_cases hT : ¬ aTwo (b_n B) x2 x3
  · refine no ?_ ?_
    · unfold fX11_mend
      rw [g1, q_b_s, if_neg (by decide), sX11_areTwoO h1.1 h12 hT, q_b_s, if_pos (by decide)]
      rfl
    · unfold fX12_mend
      rw [g2, q_b_s, if_neg (by decide), sX12_areTwoO h2.1 h12 hT, q_b_s, if_pos (by decide)]
      rfl
  obtain ⟨i, j, hi, hj, hij, rfl, rfl⟩ := Classical.not_not.mp hT
  have t1 := sX11_areTwo h1.1 h12 hi hj hij
  have t2 := sX12_areTwo h2.1 h12 hi hj hij
  rcases q_out_or x4 (n := 10) (by decide) with o | ⟨d, hd, rfl⟩
  · have z1 : fX11_isWithin M1 x4 0 9 = some (0, M1) := w_out M1 (show 9 < 1000000 by decide) o
    have z2 : fX12_in M2 (Int32.toInt64 x4) 0 9 = some (0, M2) := v_out M2 (show 9 < 1000000 by decide) o
    refine no ?_ ?_
    · unfold fX11_mend
      rw [g1, q_b_s, if_neg (by decide), t1, q_b_s, if_neg (by decide), z1, q_b_s, if_pos (by decide)]
      rfl
    · unfold fX12_mend
      rw [g2, q_b_s, if_neg (by decide), t2, q_b_s, if_neg (by decide), z2, q_b_s, if_pos (by decide)]
      rfl
  have d1 : fX11_isWithin M1 (nI d) 0 9 = some (1, M1) := w_in M1 (n := 9) (k := d) (by decide) (by omega)
  have d2 : fX12_in M2 (Int32.toInt64 (nI d)) 0 9 = some (1, M2) := v_in M2 (n := 9) (k := d) (by decide) (by omega)
  rcases q_out_or x5 (n := 4) (by decide) with o | ⟨kd, hkd, rfl⟩
  · have z1 : fX11_isWithin M1 x5 0 3 = some (0, M1) := w_out M1 (show 3 < 1000000 by decide) o
    have z2 : fX12_in M2 (Int32.toInt64 x5) 0 3 = some (0, M2) := v_out M2 (show 3 < 1000000 by decide) o
    refine no ?_ ?_
    · unfold fX11_mend
      rw [g1, q_b_s, if_neg (by decide), t1, q_b_s, if_neg (by decide), d1, q_b_s, if_neg (by decide), z1, q_b_s, if_neg (by decide)]
      rfl
    · unfold fX12_mend
      rw [g2, q_b_s, if_neg (by decide), t2, q_b_s, if_neg (by decide), d2, q_b_s, if_neg (by decide), z2, q_b_s, if_neg (by decide)]
      rfl
  have w1 : fX11_isWithin M1 (nI kd) 0 3 = some (1, M1) := w_in M1 (n := 3) (k := kd) (by decide) (by omega)
  have w2 : fX12_in M2 (Int32.toInt64 (nI kd)) 0 3 = some (1, M2) := v_in M2 (n := 3) (k := kd) (by decide) (by omega)
  have hc6 : c < 6 := by omega
  have okc := ok.2.2.1 c hc
  have hv : v_ok nc (B, (i, j, d), (Cs c, Cs c), 0) := ⟨ok.1, hi, hj, hij, hd, okc, okc, by show 0 < 64; decide⟩
  obtain ⟨⟨a, ha, hA⟩, ⟨g, hg, hG⟩, v, hv2, hW⟩ := hM
  obtain ⟨N1, e1, A1, m1, k1⟩ := sX0_set (C0 := Cs c) (C1 := Cs c) h1.1 hv hc6 hc6 (h1.2.1 c hc) (h1.2.1 c hc) hA (by omega)
  have hRC : RC1 N1 (10 + c) (Cs c) := (h1.2.1 c hc).any k1 (fun j z => by unfold SS at z; omega)
  have hn14 := okc.2.2.2.2.1
  have cb : fX2_countOfBacks N1 (10 + c) 6 = some (nI (min 6 (c_b (Cs c) (c_n (Cs c)))), N1) := by
    unfold fX2_countOfBacks
    exact sX2_countOfBacks_b4 hRC okc (c_n (Cs c)) 0 q_F (by omega) (q_Fn (by omega))
  have hnb : min 6 (c_b (Cs c) (c_n (Cs c))) ≤ 6 := Nat.min_le_left _ _
  have l2 : fX12_mend_b51 q_F M2 (nI c) (nI i) (nI j) (nI d) (nI kd) 0 0 = fX12_mend_b103 M2 (nI c) (nI i) (nI j) (nI d) (nI kd) (nI (min 6 (c_b (Cs c) (c_n (Cs c))))) := sX12_mend_b51 (h2.2.1 c hc) okc hc6 (c_n (Cs c)) 0 q_F (by omega) (q_Fn (by omega))
  generalize hN : min 6 (c_b (Cs c) (c_n (Cs c))) = nb at cb hnb l2
  have hp : 2 ^ nb ≤ 64 := Nat.pow_le_pow_right (n := 2) (by decide) hnb
  obtain ⟨_, P1, f1, rfl, m5, ⟨g5, hg5, G5⟩, k5⟩ := sX11_mend_b80 (g := g) (kind := kd) (nb := nb) hv hc6 hkd hnb (show a + 1 < 2000000000 by omega) 7 0 q_F g N1 (by omega) (q_Fn (by decide)) (by omega) (by omega) ⟨0, A1⟩ m1 (hG.kept k1 (fun j z => by unfold SS at z; omega)) (fun s _ z => absurd z (Nat.not_lt_zero _))
  obtain ⟨_, P2, f2, rfl, z25, k6⟩ := sX12_mend_b110 hv hc h6 hkd hnb h2.1 h2.2.1 (2 ^ nb) 0 q_F M2 (by omega) (q_Fn (by omega)) kp.rf
  have W1 := (hW.kept k1 (fun j z => by unfold SS at z; omega)).kept k5 (fun j z => by unfold SG SA at z; omega)
  refine ⟨m_I (m_b (m_F B (i, j, d) (Cs c) kd) (2 ^ nb)), P1, P2, ?_, ?_, (k1.wd (fun x j z => S1_5 (SS_1 z))).tr (k5.wd (fun x j z => ?_)), k6, z25, ⟨a + 1, by omega, m5⟩, ⟨g5, by omega, G5⟩, v, by omega, W1⟩
  · unfold fX11_mend
    rw [g1, q_b_s, if_neg (by decide), t1, q_b_s, if_neg (by decide), d1, q_b_s, if_neg (by decide), w1, q_b_s, if_pos (by decide), sX11_codeAt hc6, q_b_s, if_pos (kls_c hc6), e1, q_bv_s, cb, q_b_s, show (1 : Int32) <<< (nI nb &&& (31 : Int32)) = nI (2 ^ nb) from bit31 nb (by omega), nI0]
    exact f1
  · unfold fX12_mend
    rw [g2, q_b_s, if_neg (by decide), t2, q_b_s, if_neg (by decide), d2, q_b_s, if_neg (by decide), w2, q_b_s, if_pos (by decide), l2]
    unfold fX12_mend_b103
    rw [nI0]
    exact f2
  · rcases z with z | z | z
    · exact SG_5 z
    · exact Or.inl (Or.inl z)
    · exact Or.inr (Or.inl z)
end MEND
