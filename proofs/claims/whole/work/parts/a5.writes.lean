/-! the reference writes a state behind a move -/
theorem y_ne {M : QM} {o j i k : Nat} {v : Int32} (h : i ≠ k) : q_a (p_a M o j k v) o j i = q_a M o j i := by
  rw [q_a_p_a, if_neg (fun z => h z.2.2)]
theorem y_ee {M : QM} {o j i : Nat} {v : Int32} : q_a (p_a M o j i v) o j i = v := by
  rw [q_a_p_a, if_pos ⟨rfl, rfl, rfl⟩]
def RQ0 (T : Nat → Int32) (q : Nat) (Q : QR) : Prop := T (64 * q) = nI (r_p Q 0) ∧ T (64 * q + 1) = nI (r_p Q 1) ∧ T (64 * q + 2) = nI (r_l Q) ∧ T (64 * q + 3) = nI (r_c Q 0) ∧ T (64 * q + 4) = nI (r_c Q 1) ∧ T (64 * q + 5) = nI (r_n Q) ∧
  ∀ k, k < r_n Q → T (64 * q + 8 + k) = nI (r_m Q k) ∧ T (64 * q + 17 + 5 * k) = nI (s_o (r_s Q k) 0) ∧ T (64 * q + 17 + 5 * k + 1) = nI (s_o (r_s Q k) 1) ∧ (s_e (r_s Q k) = 0 → T (64 * q + 17 + 5 * k + 2) = nI (s_t (r_s Q k))) ∧ T (64 * q + 17 + 5 * k + 3) = nI (s_k (r_s Q k)) - 1 ∧ T (64 * q + 17 + 5 * k + 4) = nI (s_l (r_s Q k))
theorem RQ2.zero {T : Nat → Int32} {q : Nat} {Q : QR} (h : RQ2 T q Q) : RQ0 T q Q := ⟨h.1, h.2.1, h.2.2.1, h.2.2.2.1, h.2.2.2.2.1, h.2.2.2.2.2.1, h.2.2.2.2.2.2.2.2⟩
theorem RQ2.same {T U : Nat → Int32} {q : Nat} {Q : QR} (h : RQ2 T q Q) (hn : r_n Q ≤ 9) (e : ∀ i, 64 * q ≤ i → i < 64 * q + 64 → U i = T i) : RQ2 U q Q := by
  obtain ⟨h0, h1, h2, h3, h4, h5, h6, h7, h8⟩ := h
  refine ⟨(e _ (by omega) (by omega)).trans h0, (e _ (by omega) (by omega)).trans h1, (e _ (by omega) (by omega)).trans h2, (e _ (by omega) (by omega)).trans h3, (e _ (by omega) (by omega)).trans h4, (e _ (by omega) (by omega)).trans h5, (e _ (by omega) (by omega)).trans h6, (e _ (by omega) (by omega)).trans h7, fun k hk => ?_⟩
  obtain ⟨g0, g1, g2, g3, g4, g5⟩ := h8 k hk
  exact ⟨(e _ (by omega) (by omega)).trans g0, (e _ (by omega) (by omega)).trans g1, (e _ (by omega) (by omega)).trans g2, fun z => (e _ (by omega) (by omega)).trans (g3 z), (e _ (by omega) (by omega)).trans g4, (e _ (by omega) (by omega)).trans g5⟩
theorem rA_n (Q : QR) (m : Nat) (s : ST) : r_n (rA Q m s) = r_n Q + 1 := rfl
theorem rA_now (Q : QR) (m : Nat) (s : ST) : r_now (rA Q m s) = s := fU_s _ _ _
theorem rA_sN (Q : QR) (m : Nat) (s : ST) : r_s (rA Q m s) (r_n Q) = s := fU_s _ _ _
theorem rA_mN (Q : QR) (m : Nat) (s : ST) : r_m (rA Q m s) (r_n Q) = m := fU_s _ _ _
theorem rA_s (Q : QR) (m : Nat) (s : ST) {k : Nat} (h : k ≠ r_n Q) : r_s (rA Q m s) k = r_s Q k := fU_n _ _ h
theorem rA_m (Q : QR) (m : Nat) (s : ST) {k : Nat} (h : k ≠ r_n Q) : r_m (rA Q m s) k = r_m Q k := fU_n _ _ h
section WRITES
variable {M : QM}
theorem sX12_writes {q m : Nat} {Q : QR} {s : ST} (hq : q < 24) (hn : r_n Q < 9) (h : RQ0 (fun i => q_a M 1000 43 i) q Q) (R : RST M s) : qV (fX12_writes M (nI q) (nI m)) (fun N => RQ2 (fun i => q_a N 1000 43 i) q (rA Q m s) ∧ (∀ i, (i < 64 * q ∨ 64 * q + 64 ≤ i) → q_a N 1000 43 i = q_a M 1000 43 i) ∧ kp (fun a j => a = 1000 ∧ j = 43) M N) := by
  obtain ⟨h0, h1, h2, h3, h4, h5, h8⟩ := h
  have h0 : q_a M 1000 43 (64 * q) = nI (r_p Q 0) := h0
  have h1 : q_a M 1000 43 (64 * q + 1) = nI (r_p Q 1) := h1
  have h2 : q_a M 1000 43 (64 * q + 2) = nI (r_l Q) := h2
  have h3 : q_a M 1000 43 (64 * q + 3) = nI (r_c Q 0) := h3
  have h4 : q_a M 1000 43 (64 * q + 4) = nI (r_c Q 1) := h4
  have h5 : q_a M 1000 43 (64 * q + 5) = nI (r_n Q) := h5
  have a0 := R.1 0 (by decide)
  have a1 := R.1 1 (by decide)
  have a30 : ∀ {N : QM} {i v} (k : Nat), q_a (p_a N 1000 43 i v) 1000 30 k = q_a N 1000 30 k := fun k => by rw [q_a_p_a, if_neg (fun z => absurd z.2.1 (by decide))]
  unfold fX12_writes
  simp (disch := omega) only [y_lit, y_lt_T, y_lt_F, y_le_T, y_le_F, y_eq_T, y_eq_F, y_in_T, y_cl, ↓reduceIte, y_bs, y_bvs, y_os, y_on, y_t, ne_eq, not_true_eq_false, not_false_eq_true, pk_mul, nI_add, y_ia, h5, a30, a0, a1, R.2.2.1, R.2.2.2.1, R.2.2.2.2.1, R.2.2.2.2.2]
  refine qV_s ⟨⟨?_, ?_, ?_, ?_, ?_, ?_, ?_, ?_, fun k hk => ?_⟩, fun i hi => ?_, ?_⟩
  · simp (disch := omega) only [y_ne, y_ee]
    exact h0
  · simp (disch := omega) only [y_ne, y_ee]
    exact h1
  · simp (disch := omega) only [y_ne, y_ee]
    exact h2
  · simp (disch := omega) only [y_ne, y_ee]
    exact h3
  · simp (disch := omega) only [y_ne, y_ee]
    exact h4
  · simp (disch := omega) only [y_ne, y_ee, rA_n]
  · simp (disch := omega) only [y_ne, y_ee, rA_now]
  · simp (disch := omega) only [y_ne, y_ee, rA_now]
  · rw [rA_n] at hk
    by_cases e : k = r_n Q
    · subst e
      rw [rA_mN, rA_sN]
      simp (disch := omega) only [y_ne, y_ee, true_and]
      exact ⟨R.2.1, rfl, trivial⟩
    · rw [rA_m _ _ _ e, rA_s _ _ _ e]
      have := h8 k (by omega)
      simp (disch := omega) only [y_ne, y_ee]
      exact this
  · simp (disch := omega) only [y_ne]
  · refine kp.tr (kp.tr (kp.tr (kp.tr (kp.tr (kp.tr (kp.tr (kp.tr (kp_a ?_) (kp_a ?_)) (kp_a ?_)) (kp_a ?_)) (kp_a ?_)) (kp_a ?_)) (kp_a ?_)) (kp_a ?_)) (kp_a ?_) <;> exact ⟨rfl, rfl⟩
end WRITES
