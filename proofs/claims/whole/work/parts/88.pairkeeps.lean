section PAIRKEEPS
variable {nc : Nat} {M1 M2 : QM} {B : BK}
theorem pair_keeps (h1 : RB1 M1 20 B) (h2 : RM2 M2 B) (hB : b_ok nc B) (hn : nc ≤ 6) (n1 : q_i M1 0 10 = nI nc) (n2 : q_i M2 1000 5 = nI nc) (x y : Int32) : ∃ r N1 N2 B1, fX11_keeps M1 x y = some (r, N1) ∧ fX12_keeps M2 x y = some (r, N2) ∧
    RB1 N1 20 B1 ∧ RM2 N2 B1 ∧ b_ok nc B1 ∧ kp (fun a _ => a = 20) M1 N1 ∧ kp (fun a j => a = 1000 ∧ j = 1) M2 N2 ∧ b_q B1 = b_q B ∧ b_r B1 = b_r B := by
  have h12 := hB.1
  rcases q_out_or x (n := b_n B) (by omega) with ox | ⟨i, hi, rfl⟩
  · refine ⟨0, M1, M2, B, ?_, ?_, h1, h2, hB, kp.rf, kp.rf, rfl, rfl⟩
    · unfold fX11_keeps
      rw [sX1_hasPersonO h1 ox, q_b_s, if_pos rfl]
    · unfold fX12_keeps
      rw [sX12_isPersonO h2 ox, q_b_s, if_pos rfl]
  · have c0 : q_in (nI (4 * i + 3)) 48 := q_inN (by omega) (by omega)
    have l0 : (nI (4 * i + 3)).toNatClampNeg = 4 * i + 3 := nI_cl (by omega)
    have g := hB.2.2.1 i hi
    have go : ∀ c : Option Nat, (∀ k, c = some k → k < nc) → y = oI c → (fX11_keeps M1 (nI i) y = fX11_keeps_b26 M1 (nI i) y) → (fX12_keeps M2 (nI i) y = fX12_keeps_b23 M2 (nI i) y) → ∃ r N1 N2 B1, fX11_keeps M1 (nI i) y = some (r, N1) ∧ fX12_keeps M2 (nI i) y = some (r, N2) ∧
        RB1 N1 20 B1 ∧ RM2 N2 B1 ∧ b_ok nc B1 ∧ kp (fun a _ => a = 20) M1 N1 ∧ kp (fun a j => a = 1000 ∧ j = 1) M2 N2 ∧ b_q B1 = b_q B ∧ b_r B1 = b_r B := fun c hc hy e1 e2 => by
      obtain ⟨N1, w1, w2, w3⟩ := sX1_setCode h1 (by decide) (by decide) h12 hi c
      refine ⟨1, N1, p_a M2 1000 1 (4 * i + 3) (oI c), _, ?_, ?_, w2, RM2.keeps h2 c, bP_ok hB hi g.1 g.2.1 g.2.2.1 hc g.2.2.2.2, w3, kp_a ⟨rfl, rfl⟩, rfl, rfl⟩
      · rw [e1, hy]
        unfold fX11_keeps_b26
        rw [w1, q_bv_s]
      · rw [e2, hy]
        unfold fX12_keeps_b23
        simp only [L4, L3, pk_mul, nI_add, if_pos c0, l0, q_t]
    by_cases e : y = -1
    · refine go none (fun k z => by cases z) e ?_ ?_
      · unfold fX11_keeps
        rw [sX1_hasPerson h1 h12 hi, q_b_s, if_neg (by decide), if_pos e]
      · unfold fX12_keeps
        rw [sX12_isPerson h2 h12 hi, q_b_s, if_neg (by decide), if_pos e]
    · rcases q_out_or y (n := nc) (by omega) with oy | ⟨c, hc, rfl⟩
      · refine ⟨0, M1, M2, B, ?_, ?_, h1, h2, hB, kp.rf, kp.rf, rfl, rfl⟩
        · unfold fX11_keeps
          rw [sX1_hasPerson h1 h12 hi, q_b_s, if_neg (by decide), if_neg e, sX11_hasCodeO n1 oy, q_b_s, if_neg (by decide)]
        · unfold fX12_keeps
          rw [sX12_isPerson h2 h12 hi, q_b_s, if_neg (by decide), if_neg e, sX12_isCodeO n2 oy, q_b_s, if_neg (by decide)]
      · refine go (some c) (fun k z => by cases z; exact hc) rfl ?_ ?_
        · unfold fX11_keeps
          rw [sX1_hasPerson h1 h12 hi, q_b_s, if_neg (by decide), if_neg e, sX11_hasCode n1 hn hc, q_b_s, if_pos (by decide)]
        · unfold fX12_keeps
          rw [sX12_isPerson h2 h12 hi, q_b_s, if_neg (by decide), if_neg e, sX12_isCode n2 hn hc, q_b_s, if_pos (by decide)]
end PAIRKEEPS
