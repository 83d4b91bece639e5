/-! person: both sides -/
section PERSON
variable {nc : Nat} {M M1 M2 : QM} {B : BK}
theorem sX12_person_b104 {p : Nat} (hp : p < 12) : ∀ (n i q : Nat) (N : QM), i + n = 12 → n < q → kp (fun a j => a = 1000 ∧ j = 2) M N → q_i M 1000 0 = nI p → (∀ t, t < i → q_a N 1000 2 (12 * p + t) = 0 ∧ q_a N 1000 2 (12 * t + p) = 0) → (∀ c, (∀ t, t < 12 → c ≠ 12 * p + t ∧ c ≠ 12 * t + p) → q_a N 1000 2 c = q_a M 1000 2 c) →
    qW (fX12_person_b104 q N (nI i)) (fun v N1 => v = nI p ∧ kp (fun a j => a = 1000 ∧ (j = 2 ∨ j = 0)) M N1 ∧ q_i N1 1000 0 = nI (p + 1) ∧ (∀ t, t < 12 → q_a N1 1000 2 (12 * p + t) = 0 ∧ q_a N1 1000 2 (12 * t + p) = 0) ∧ ∀ c, (∀ t, t < 12 → c ≠ 12 * p + t ∧ c ≠ 12 * t + p) → q_a N1 1000 2 c = q_a M 1000 2 c) := by
  intro n
  induction n with
  | zero =>
    intro i q N hi hq g h0 h1 h2
    obtain ⟨q, rfl⟩ : ∃ p, q = p + 1 := ⟨q - 1, by omega⟩
    have e : i = 12 := hi
    subst e
    have g0 : q_i N 1000 0 = nI p := (g.i (by decide)).trans h0
    rw [fX12_person_b104, if_pos (by decide), fX12_person_b149]
    refine qW_t ?_
    rw [g0, L1, nI_add]
    refine qW_s ⟨?_, (g.wd (fun a j z => ⟨z.1, Or.inl z.2⟩)).tr (kp_i ⟨rfl, Or.inr rfl⟩), ?_, h1, h2⟩
    · rw [q_i_p_i, if_pos ⟨rfl, rfl⟩, pk_sub (by omega), Nat.add_sub_cancel]
    · rw [q_i_p_i, if_pos ⟨rfl, rfl⟩]
  | succ n ih =>
    intro i q N hi hq g h0 h1 h2
    obtain ⟨q, rfl⟩ : ∃ p, q = p + 1 := ⟨q - 1, by omega⟩
    have g0 : q_i N 1000 0 = nI p := (g.i (by decide)).trans h0
    have c1 : q_in (nI (12 * p + i)) 144 := q_inN (by omega) (by omega)
    have c2 : q_in (nI (12 * i + p)) 144 := q_inN (by omega) (by omega)
    have l1 : (nI (12 * p + i)).toNatClampNeg = 12 * p + i := nI_cl (by omega)
    have l2 : (nI (12 * i + p)).toNatClampNeg = 12 * i + p := nI_cl (by omega)
    have e1 : (12 : Int32) * nI p + nI i = nI (12 * p + i) := by rw [L12, pk_mul, nI_add]
    have e2 : (12 : Int32) * nI i + nI p = nI (12 * i + p) := by rw [L12, pk_mul, nI_add]
    rw [fX12_person_b104, if_neg (show ¬ (12 : Int32) ≤ nI i from nI_ge (b := 12) (by omega) (by omega))]
    simp only [g0, e1, if_pos c1, l1]
    refine qW_t ?_
    simp only [q_i_p_a, g0, e2, if_pos c2, l2]
    refine qW_t ?_
    rw [L1, nI_add]
    refine ih (i + 1) q _ (by omega) (by omega) (g.tr (kp.tr (kp_a ⟨rfl, rfl⟩) (kp_a ⟨rfl, rfl⟩))) h0 (fun t ht => ?_) (fun c hc => ?_)
    · simp only [q_a_p_a, true_and]
      by_cases e : t = i
      · subst e
        refine ⟨?_, by rw [if_pos rfl]⟩
        split
        · rfl
        · rw [if_pos rfl]
      · have := h1 t (by omega)
        refine ⟨?_, ?_⟩
        · split
          · rfl
          · split
            · rfl
            · exact this.1
        · split
          · rfl
          · split
            · rfl
            · exact this.2
    · have := hc i (by omega)
      simp only [q_a_p_a, true_and, if_neg this.1, if_neg this.2]
      exact h2 c hc
end PERSON
