section PERSONP
variable {nc : Nat} {M1 M2 : QM} {B : BK}
theorem bA_ok (hB : b_ok nc B) (h12 : b_n B < 12) {a r c : Nat} (ha : a < 100) (hr : r < 10) (hc : c < 10) : b_ok nc (bA B (a, r, c, none, 0)) := by
  refine ⟨h12, hB.2.1, fun k hk => ?_, fun q hq => ?_⟩
  · have hk : k < b_n B + 1 := hk
    unfold b_age b_rank b_house b_code b_owes
    by_cases e : k = b_n B
    · subst e
      rw [bA_s]
      exact ⟨ha, hr, hc, fun c z => (by cases z), Nat.two_pow_pos _⟩
    · rw [bA_n B _ e]
      have g := hB.2.2.1 k (by omega)
      exact ⟨g.1, g.2.1, g.2.2.1, g.2.2.2.1, Nat.lt_of_lt_of_le g.2.2.2.2 (Nat.pow_le_pow_right (by decide) (Nat.le_succ _))⟩
  · have g := hB.2.2.2 q hq
    exact ⟨Nat.lt_succ_of_lt g.1, Nat.lt_succ_of_lt g.2.1, g.2.2⟩
/-- the reference's rows hold one person more -/
theorem RM2.person (h : RM2 M2 B) (hB : b_ok nc B) (h12 : b_n B < 12) {N : QM} {a r c : Nat} (hn : q_i N 1000 0 = nI (b_n B + 1)) (hq : q_i N 1000 42 = q_i M2 1000 42) (hT : ∀ i, q_a N 1000 43 i = q_a M2 1000 43 i)
    (hP : ∀ k, k < 4 * b_n B → q_a N 1000 1 k = q_a M2 1000 1 k) (p0 : q_a N 1000 1 (4 * b_n B) = nI a) (p1 : q_a N 1000 1 (4 * b_n B + 1) = nI r) (p2 : q_a N 1000 1 (4 * b_n B + 2) = nI c) (p3 : q_a N 1000 1 (4 * b_n B + 3) = -1)
    (hz : ∀ t, t < 12 → q_a N 1000 2 (12 * b_n B + t) = 0 ∧ q_a N 1000 2 (12 * t + b_n B) = 0) (hk : ∀ x, (∀ t, t < 12 → x ≠ 12 * b_n B + t ∧ x ≠ 12 * t + b_n B) → q_a N 1000 2 x = q_a M2 1000 2 x) : RM2 N (bA B (a, r, c, none, 0)) := by
  refine ⟨hn, hq.trans h.2.1, fun k hk2 => ?_, fun q hq2 => ?_⟩
  · have hk2 : k < b_n B + 1 := hk2
    by_cases e : k = b_n B
    · subst e
      rw [bA_s]
      refine ⟨p0, p1, p2, p3, fun j hj => ?_⟩
      have hj : j < b_n B + 1 := hj
      rw [Nat.zero_div]
      exact (hz j (by omega)).1
    · rw [bA_n B _ e]
      have g := h.2.2.1 k (by omega)
      refine ⟨(hP _ (by omega)).trans g.1, (hP _ (by omega)).trans g.2.1, (hP _ (by omega)).trans g.2.2.1, (hP _ (by omega)).trans g.2.2.2.1, fun j hj => ?_⟩
      have hj : j < b_n B + 1 := hj
      by_cases e2 : j = b_n B
      · subst e2
        have hw : b_owes B k < 2 ^ b_n B := (hB.2.2.1 k (by omega)).2.2.2.2
        rw [show (b_p B k).2.2.2.2 / 2 ^ b_n B % 2 = 0 from bb_zero hw (Nat.le_refl _)]
        exact (hz k (by omega)).2
      · refine (hk _ (fun t ht => ⟨by omega, by omega⟩)).trans (g.2.2.2.2 j (by omega))
  · have g := h.2.2.2 q hq2
    have e : (fun i => q_a N 1000 43 i) = (fun i => q_a M2 1000 43 i) := funext hT
    show RQ2 (fun i => q_a N 1000 43 i) q (b_r B q)
    rw [e]
    exact g
/-- one number is within: what both sides ask -/
theorem in_nI {x : Int32} {b : Nat} (hb : b < 2 ^ 31) : (nI 0 ≤ x ∧ x ≤ nI b) ↔ ∃ a, a ≤ b ∧ x = nI a := by
  refine ⟨fun z => ?_, fun ⟨a, h, e⟩ => by rw [e]; exact ⟨nI_le (Nat.zero_le _) (by omega), nI_le h hb⟩⟩
  have h0 : ¬ x < 0 := Int32.not_lt.mpr z.1
  obtain ⟨j, hj, e⟩ := nI_of h0
  have z2 := z.2
  rw [e, nI_leI hj hb] at z2
  exact ⟨j, z2, e⟩
end PERSONP
