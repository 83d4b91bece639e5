/-! debt: both sides -/
section DEBT
variable {nc : Nat} {M1 M2 : QM} {B : BK}
theorem bP_ok (hB : b_ok nc B) {i : Nat} (hi : i < b_n B) {v : Nat × Nat × Nat × Option Nat × Nat} (h1 : v.1 < 100) (h2 : v.2.1 < 10) (h3 : v.2.2.1 < 10) (h4 : ∀ c, v.2.2.2.1 = some c → c < nc) (h5 : v.2.2.2.2 < 2 ^ b_n B) : b_ok nc (bP B i v) := by
  refine ⟨hB.1, hB.2.1, fun k hk => ?_, hB.2.2.2⟩
  by_cases e : k = i
  · subst e
    unfold b_age b_rank b_house b_code b_owes
    rw [bP_s]
    exact ⟨h1, h2, h3, h4, h5⟩
  · unfold b_age b_rank b_house b_code b_owes
    rw [bP_n B v e]
    exact hB.2.2.1 k hk
/-- the reference's cell of a debt is written -/
theorem RM2.debt (h : RM2 M2 B) (hB : b_ok nc B) {i j : Nat} (hi : i < b_n B) (hj : j < b_n B) (is : Bool) : RM2 (p_a M2 1000 2 (12 * i + j) (if is then 1 else 0)) (bP B i (b_age B i, b_rank B i, b_house B i, b_code B i, bD (b_owes B i) j is)) := by
  have h12 := hB.1
  refine ⟨h.1, h.2.1, fun k hk => ?_, h.2.2.2⟩
  have hk : k < b_n B := hk
  have gk := h.2.2.1 k hk
  by_cases e : k = i
  · subst e
    rw [bP_s]
    refine ⟨gk.1, gk.2.1, gk.2.2.1, gk.2.2.2.1, fun t ht => ?_⟩
    have ht : t < b_n B := ht
    have gt := gk.2.2.2.2 t ht
    show q_a (p_a M2 1000 2 (12 * k + j) (if is then 1 else 0)) 1000 2 (12 * k + t) = nI (bD (b_owes B k) j is / 2 ^ t % 2)
    rw [q_a_p_a, bD_bit (by omega)]
    by_cases e2 : t = j
    · subst e2
      rw [if_pos ⟨rfl, rfl, rfl⟩, if_pos rfl]
      cases is <;> rfl
    · rw [if_neg (by omega), if_neg e2]
      exact gt
  · rw [bP_n B _ e]
    refine ⟨gk.1, gk.2.1, gk.2.2.1, gk.2.2.2.1, fun t ht => ?_⟩
    have ht : t < b_n B := ht
    show q_a (p_a M2 1000 2 (12 * i + j) (if is then 1 else 0)) 1000 2 (12 * k + t) = _
    rw [q_a_p_a, if_neg (by omega)]
    exact gk.2.2.2.2 t ht
theorem pair_debt (h1 : RB1 M1 20 B) (h2 : RM2 M2 B) (hB : b_ok nc B) (x y : Int32) (is : Bool) : ∃ r N1 N2 B1, fX11_debt M1 x y (if is then 1 else 0) = some (r, N1) ∧ fX12_debt M2 x y (if is then 1 else 0) = some (r, N2) ∧
    RB1 N1 20 B1 ∧ RM2 N2 B1 ∧ b_ok nc B1 ∧ kp (fun a _ => a = 20) M1 N1 ∧ kp (fun a j => a = 1000 ∧ j = 2) M2 N2 ∧ b_q B1 = b_q B ∧ b_r B1 = b_r B := by
  have h12 := hB.1
  by_cases hA : aTwo (b_n B) x y
  · obtain ⟨i, j, hi, hj, hij, rfl, rfl⟩ := hA
    have e0 : nI (12 * i) + nI j = nI (12 * i + j) := nI_add _ _
    have c0 : q_in (nI (12 * i + j)) 144 := q_inN (by omega) (by omega)
    have l0 : (nI (12 * i + j)).toNatClampNeg = 12 * i + j := nI_cl (by omega)
    have a0 : q_a M2 1000 2 (12 * i + j) = nI (b_owes B i / 2 ^ j % 2) := (h2.2.2.1 i hi).2.2.2.2 j hj
    have hv : b_owes B i / 2 ^ j % 2 < 2 := Nat.mod_lt _ (by decide)
    have o1 := sX1_isOwing h1 hB hi hj
    obtain ⟨N1, w1, w2, w3⟩ := sX1_setOwing h1 (by decide) (by decide) hB hi hj is
    have g := hB.2.2.1 i hi
    have ok1 : b_ok nc (bP B i (b_age B i, b_rank B i, b_house B i, b_code B i, bD (b_owes B i) j is)) := bP_ok hB hi g.1 g.2.1 g.2.2.1 g.2.2.2.1 (bD_lt g.2.2.2.2 hj is)
    have dm := RM2.debt h2 hB hi hj is
    have km : kp (fun a j => a = 1000 ∧ j = 2) M2 (p_a M2 1000 2 (12 * i + j) (if is then 1 else 0)) := kp_a ⟨rfl, rfl⟩
    have f1 : fX11_debt M1 (nI i) (nI j) (if is then 1 else 0) = if nI (b_owes B i / 2 ^ j % 2) ≠ (if is then 1 else 0) then some (1, N1) else some (0, M1) := by
      unfold fX11_debt
      rw [sX11_areTwo h1 h12 hi hj hij, q_b_s, if_neg (by decide), o1, q_b_s, w1, q_bv_s]
    have f2 : fX12_debt M2 (nI i) (nI j) (if is then 1 else 0) = if nI (b_owes B i / 2 ^ j % 2) ≠ (if is then 1 else 0) then some (1, p_a M2 1000 2 (12 * i + j) (if is then 1 else 0)) else some (0, M2) := by
      unfold fX12_debt
      rw [sX12_areTwo h2 h12 hi hj hij, q_b_s, if_neg (by decide)]
      unfold fX12_debt_b29 fX12_debt_b54
      simp only [L12, pk_mul, nI_add, if_pos c0, l0, a0, q_t]
      generalize b_owes B i / 2 ^ j % 2 = v at hv
      match v, hv with
      | 0, _ => cases is <;> rfl
      | 1, _ => cases is <;> rfl
    by_cases c : nI (b_owes B i / 2 ^ j % 2) ≠ (if is then 1 else 0)
    · rw [if_pos c] at f1 f2
      exact ⟨_, _, _, _, f1, f2, w2, dm, ok1, w3, km, rfl, rfl⟩
    · rw [if_neg c] at f1 f2
      exact ⟨_, _, _, _, f1, f2, h1, h2, hB, kp.rf, kp.rf, rfl, rfl⟩
  · refine ⟨0, M1, M2, B, ?_, ?_, h1, h2, hB, kp.rf, kp.rf, rfl, rfl⟩
    · unfold fX11_debt
      rw [sX11_areTwoO h1 h12 hA, q_b_s, if_pos rfl]
    · unfold fX12_debt
      rw [sX12_areTwoO h2 h12 hA, q_b_s, if_pos rfl]
end DEBT
