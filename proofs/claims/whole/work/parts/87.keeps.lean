section KEEPS
variable {nc : Nat} {M1 M2 : QM} {B : BK}
theorem sX11_hasCode {M : QM} (h : q_i M 0 10 = nI nc) (hn : nc ≤ 6) {c : Nat} (hc : c < nc) : fX11_hasCode M (nI c) = some (1, M) := by
  unfold fX11_hasCode
  rw [h, if_neg (nI_pos (by omega)), if_neg (nI_ge hc (by omega))]
theorem sX11_hasCodeO {M : QM} (h : q_i M 0 10 = nI nc) {x : Int32} (hx : q_out x nc) : fX11_hasCode M x = some (0, M) := by
  unfold fX11_hasCode
  rw [h]
  by_cases h0 : x < 0
  · rw [if_pos h0]
  · rw [if_neg h0, if_pos (hx.resolve_left h0)]
theorem sX12_isCode {M : QM} (h : q_i M 1000 5 = nI nc) (hn : nc ≤ 6) {c : Nat} (hc : c < nc) : fX12_isCode M (nI c) = some (1, M) := by
  unfold fX12_isCode
  rw [h, if_neg (nI_pos (by omega)), if_neg (nI_ge hc (by omega))]
theorem sX12_isCodeO {M : QM} (h : q_i M 1000 5 = nI nc) {x : Int32} (hx : q_out x nc) : fX12_isCode M x = some (0, M) := by
  unfold fX12_isCode
  rw [h]
  by_cases h0 : x < 0
  · rw [if_pos h0]
  · rw [if_neg h0, if_pos (hx.resolve_left h0)]
theorem RM2.keeps (h : RM2 M2 B) {i : Nat} (c : Option Nat) : RM2 (p_a M2 1000 1 (4 * i + 3) (oI c)) (bP B i (b_age B i, b_rank B i, b_house B i, c, b_owes B i)) := by
  refine ⟨h.1, h.2.1, fun k hk => ?_, h.2.2.2⟩
  have hk : k < b_n B := hk
  have gk := h.2.2.1 k hk
  by_cases e : k = i
  · subst e
    rw [bP_s]
    refine ⟨?_, ?_, ?_, ?_, gk.2.2.2.2⟩
    · show q_a (p_a M2 1000 1 (4 * k + 3) (oI c)) 1000 1 (4 * k) = _
      rw [q_a_p_a, if_neg (by omega)]
      exact gk.1
    · show q_a (p_a M2 1000 1 (4 * k + 3) (oI c)) 1000 1 (4 * k + 1) = _
      rw [q_a_p_a, if_neg (by omega)]
      exact gk.2.1
    · show q_a (p_a M2 1000 1 (4 * k + 3) (oI c)) 1000 1 (4 * k + 2) = _
      rw [q_a_p_a, if_neg (by omega)]
      exact gk.2.2.1
    · show q_a (p_a M2 1000 1 (4 * k + 3) (oI c)) 1000 1 (4 * k + 3) = _
      rw [q_a_p_a, if_pos ⟨rfl, rfl, rfl⟩]
  · rw [bP_n B _ e]
    refine ⟨?_, ?_, ?_, ?_, gk.2.2.2.2⟩
    · show q_a (p_a M2 1000 1 (4 * i + 3) (oI c)) 1000 1 (4 * k) = _
      rw [q_a_p_a, if_neg (by omega)]
      exact gk.1
    · show q_a (p_a M2 1000 1 (4 * i + 3) (oI c)) 1000 1 (4 * k + 1) = _
      rw [q_a_p_a, if_neg (by omega)]
      exact gk.2.1
    · show q_a (p_a M2 1000 1 (4 * i + 3) (oI c)) 1000 1 (4 * k + 2) = _
      rw [q_a_p_a, if_neg (by omega)]
      exact gk.2.2.1
    · show q_a (p_a M2 1000 1 (4 * i + 3) (oI c)) 1000 1 (4 * k + 3) = _
      rw [q_a_p_a, if_neg (by omega)]
      exact gk.2.2.2.1
end KEEPS
