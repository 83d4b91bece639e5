/-! calls that read the book alone: both sides answer alike -/
section PAIRS
variable {nc : Nat} {M1 M2 : QM} {B : BK}
theorem kls_q {q : Nat} (h : q < 24) : kls (el 20 5 q) = 4 := by
  rw [el_qN (by decide)]
  unfold kls
  rw [if_neg (by omega), if_pos (by omega)]
theorem pair_first (h1 : RB1 M1 20 B) (h2 : RM2 M2 B) (hB : b_ok nc B) (x : Int32) : ∃ r, fX11_first M1 x = some (r, M1) ∧ fX12_first M2 x = some (r, M2) := by
  have h12 := hB.1
  have h24 := hB.2.1
  unfold fX11_first fX12_first
  rcases q_out_or x (n := b_n B) (by omega) with ox | ⟨i, hi, rfl⟩
  · rw [sX1_hasPersonO h1 ox, q_b_s, if_neg (by decide), sX12_isPersonO h2 ox, q_b_s, if_neg (by decide)]
    exact ⟨_, rfl, rfl⟩
  · rw [sX1_hasPerson h1 h12 hi, q_b_s, if_pos (by decide), sX1_takenFirst h1 hB (by omega), q_b_s, sX12_isPerson h2 h12 hi, q_b_s, if_pos (by decide), sX12_firstOf h2 hB (by omega), q_b_s]
    cases e : tF B i (b_q B) with
    | none =>
      rw [if_neg (show ¬ (0 : Int32) ≤ rI none by decide)]
      exact ⟨_, rfl, rfl⟩
    | some tm =>
      obtain ⟨t, m⟩ := tm
      have ht := (tF_ok hB _ _ (Nat.le_refl _) _ _ e).1
      rw [if_pos (show (0 : Int32) ≤ rI (some (t, m)) from nI_pos' (by omega))]
      exact ⟨_, rfl, rfl⟩
theorem pair_waits (h1 : RB1 M1 20 B) (h2 : RM2 M2 B) (hB : b_ok nc B) (x : Int32) : ∃ r, fX11_waits M1 x = some (r, M1) ∧ fX12_waits M2 x = some (r, M2) := by
  have h24 := hB.2.1
  unfold fX11_waits fX12_waits
  rcases q_out_or x (n := b_q B) (by omega) with ox | ⟨i, hi, rfl⟩
  · rw [sX1_quarrelAtO h1 ox, q_b_s, q_o_n, sX12_isQuarrelO h2 ox, q_b_s, if_pos rfl]
    exact ⟨_, rfl, rfl⟩
  · rw [sX1_quarrelAt h1 h24 hi, q_b_s, q_o_s, if_pos (kls_q (by omega)), sX1_waitedFor h1 (by decide) (by decide) hB hi, q_b_s, sX12_isQuarrel h2 h24 hi, q_b_s, if_neg (by decide), sX12_waitsFor h2 hB hi, q_b_s]
    exact ⟨_, rfl, rfl⟩
theorem pair_ring (h1 : RB1 M1 20 B) (h2 : RM2 M2 B) (hB : b_ok nc B) (x : Int32) : ∃ r, fX11_ring M1 x = some (r, M1) ∧ fX12_ring M2 x = some (r, M2) := by
  have h24 := hB.2.1
  rcases q_out_or x (n := b_q B) (by omega) with ox | ⟨i, hi, rfl⟩
  · unfold fX11_ring fX12_ring
    rw [sX1_quarrelAtO h1 ox, q_b_s, q_o_n, sX12_isQuarrelO h2 ox, q_b_s, if_neg (by decide)]
    exact ⟨_, rfl, rfl⟩
  · obtain ⟨T, e1, g1⟩ := ring_1 h1 (by decide) (by decide) hB hi
    obtain ⟨S, e2, g2⟩ := ring_2 h2 hB hi
    have e := g1.one g2
    subst e
    rw [e2]
    unfold fX11_ring
    rw [sX1_quarrelAt h1 h24 hi, q_b_s, q_o_s, if_pos (kls_q (by omega)), e1, q_b_s]
    by_cases c : T.testBit i = true
    · rw [if_pos c, if_neg (by decide)]
      exact ⟨_, rfl, rfl⟩
    · rw [if_neg c, if_pos rfl]
      exact ⟨_, rfl, rfl⟩
theorem pair_history (h1 : RB1 M1 20 B) (h2 : RM2 M2 B) (hB : b_ok nc B) (x y : Int32) : ∃ r, fX11_history M1 x y = some (r, M1) ∧ fX12_history M2 x y = some (r, M2) := by
  have h24 := hB.2.1
  unfold fX11_history fX12_history
  rcases q_out_or x (n := b_q B) (by omega) with ox | ⟨i, hi, rfl⟩
  · rw [sX1_quarrelAtO h1 ox, q_b_s, q_o_n, sX12_isQuarrelO h2 ox, q_b_s, if_pos rfl]
    exact ⟨_, rfl, rfl⟩
  · have hQ := hB.2.2.2 i hi
    have hR := h2.2.2.2 i hi
    have hn0 : 0 < r_n (b_r B i) := hQ.2.2.2.2.2.2.1
    have hn9 : r_n (b_r B i) ≤ 9 := hQ.2.2.2.2.2.2.2.1
    have a1 : q_a M2 1000 43 (64 * i + 5) = nI (r_n (b_r B i)) := hR.2.2.2.2.2.1
    have c1 : q_in (nI (64 * i + 5)) 1536 := q_inN (by omega) (by omega)
    have l1 : (nI (64 * i + 5)).toNatClampNeg = 64 * i + 5 := nI_cl (by omega)
    have s1 : nI (r_n (b_r B i)) - nI 1 = nI (r_n (b_r B i) - 1) := pk_sub (by omega)
    have s2 : Int32.toInt64 (nI (r_n (b_r B i) - 1)) = lN (r_n (b_r B i) - 1) := nI_l (by omega)
    rw [sX1_quarrelAt h1 h24 hi, q_b_s, q_o_s, if_pos (kls_q (by omega)), sX12_isQuarrel h2 h24 hi, q_b_s, if_neg (by decide)]
    simp only [L64, L5, L1, L8, pk_mul, nI_add, if_pos c1, l1, a1, q_t, s1, s2]
    rw [show (0 : Int64) = lN 0 from rfl, sX12_in _ _ _ _ (by decide) (by omega), q_b_s]
    rcases q_out_or y (n := r_n (b_r B i)) (by omega) with oy | ⟨k, hk, rfl⟩
    · have cN : ¬ (nI 0 ≤ y ∧ y ≤ nI (r_n (b_r B i) - 1)) := fun z => by
        rcases oy with oy | oy
        · exact Int32.not_le.mpr oy z.1
        · have z2 := Int32.le_trans oy z.2
          rw [nI_leI (by omega) (by omega)] at z2
          omega
      rw [sX4_moveAtO (h1.2.2.2 i hi) oy, q_b_s, if_neg cN, if_pos rfl]
      exact ⟨_, rfl, rfl⟩
    · have a2 : q_a M2 1000 43 (64 * i + 8 + k) = nI (r_m (b_r B i) k) := (hR.2.2.2.2.2.2.2.2 k hk).1
      have c2 : q_in (nI (64 * i + 8 + k)) 1536 := q_inN (by omega) (by omega)
      have l2 : (nI (64 * i + 8 + k)).toNatClampNeg = 64 * i + 8 + k := nI_cl (by omega)
      have cY : nI 0 ≤ nI k ∧ nI k ≤ nI (r_n (b_r B i) - 1) := ⟨nI_le (Nat.zero_le _) (by omega), nI_le (by omega) (by omega)⟩
      rw [sX4_moveAt (h1.2.2.2 i hi) hn9 hk, q_b_s, if_pos cY, if_neg (by decide), nI_add, if_pos c2, l2, a2]
      exact ⟨_, rfl, rfl⟩
end PAIRS
