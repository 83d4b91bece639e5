section PAIRPERSON
variable {nc : Nat} {M1 M2 : QM} {B : BK}
theorem sX1_addPersonF {M : QM} {o : Nat} (h : RB1 M o B) (hf : b_n B = 12) (x y z : Int32) : fX1_addPerson M o x y z = some (-1, M) := by
  unfold fX1_addPerson
  rw [h.1, hf, if_neg (by decide), if_neg (by decide)]
theorem w99 (M : QM) (x : Int32) : fX11_isWithin M x 0 99 = some (if nI 0 ≤ x ∧ x ≤ nI 99 then 1 else 0, M) := sX11_isWithin M x (nI 0) (nI 99)
theorem w9 (M : QM) (x : Int32) : fX11_isWithin M x 0 9 = some (if nI 0 ≤ x ∧ x ≤ nI 9 then 1 else 0, M) := sX11_isWithin M x (nI 0) (nI 9)
theorem v99 (M : QM) (x : Int32) : fX12_in M (Int32.toInt64 x) 0 99 = some (if nI 0 ≤ x ∧ x ≤ nI 99 then 1 else 0, M) := sX12_in M x 0 99 (by decide) (by decide)
theorem v9 (M : QM) (x : Int32) : fX12_in M (Int32.toInt64 x) 0 9 = some (if nI 0 ≤ x ∧ x ≤ nI 9 then 1 else 0, M) := sX12_in M x 0 9 (by decide) (by decide)
theorem pair_person (h1 : RB1 M1 20 B) (h2 : RM2 M2 B) (hB : b_ok nc B) (x y z : Int32) : ∃ r N1 N2 B1, fX11_person M1 x y z = some (r, N1) ∧ fX12_person M2 x y z = some (r, N2) ∧
    RB1 N1 20 B1 ∧ RM2 N2 B1 ∧ b_ok nc B1 ∧ kp (fun a _ => a = 20) M1 N1 ∧ kp (fun a j => a = 1000 ∧ (j = 0 ∨ j = 1 ∨ j = 2)) M2 N2 ∧ b_q B1 = b_q B ∧ b_r B1 = b_r B := by
  have h12 := hB.1
  have stay : fX11_person M1 x y z = some (-1, M1) → fX12_person M2 x y z = some (-1, M2) → ∃ r N1 N2 B1, fX11_person M1 x y z = some (r, N1) ∧ fX12_person M2 x y z = some (r, N2) ∧
    RB1 N1 20 B1 ∧ RM2 N2 B1 ∧ b_ok nc B1 ∧ kp (fun a _ => a = 20) M1 N1 ∧ kp (fun a j => a = 1000 ∧ (j = 0 ∨ j = 1 ∨ j = 2)) M2 N2 ∧ b_q B1 = b_q B ∧ b_r B1 = b_r B := fun e1 e2 => ⟨_, _, _, B, e1, e2, h1, h2, hB, kp.rf, kp.rf, rfl, rfl⟩
  by_cases c1 : nI 0 ≤ x ∧ x ≤ nI 99
  · by_cases c2 : nI 0 ≤ y ∧ y ≤ nI 9
    · by_cases c3 : nI 0 ≤ z ∧ z ≤ nI 9
      · by_cases hf : b_n B = 12
        · refine stay ?_ ?_
          · unfold fX11_person
            rw [w99, q_b_s, if_pos c1, if_neg (by decide), w9, q_b_s, if_pos c2, if_neg (by decide), w9, q_b_s, if_pos c3, if_pos (by decide), sX1_addPersonF h1 hf, q_b_s]
          · unfold fX12_person
            rw [h2.1, hf, if_pos (by decide)]
        · have hl : b_n B < 12 := by omega
          obtain ⟨a, ha, rfl⟩ := (in_nI (by decide)).mp c1
          obtain ⟨r, hr, rfl⟩ := (in_nI (by decide)).mp c2
          obtain ⟨c, hc, rfl⟩ := (in_nI (by decide)).mp c3
          obtain ⟨v, N1, e1, rfl, g1, k1⟩ := sX1_addPerson h1 (by decide) (by decide) hl a r c
          have f1 : fX11_person M1 (nI a) (nI r) (nI c) = some (nI (b_n B), N1) := by
            unfold fX11_person
            rw [w99, q_b_s, if_pos c1, if_neg (by decide), w9, q_b_s, if_pos c2, if_neg (by decide), w9, q_b_s, if_pos c3, if_pos (by decide), e1, q_b_s]
          have f2 : qW (fX12_person M2 (nI a) (nI r) (nI c)) (fun v N2 => v = nI (b_n B) ∧ RM2 N2 (bA B (a, r, c, none, 0)) ∧ kp (fun a j => a = 1000 ∧ (j = 0 ∨ j = 1 ∨ j = 2)) M2 N2) := by
            unfold fX12_person
            have b0 : q_i M2 1000 0 = nI (b_n B) := h2.1
            have d0 : q_in (nI (4 * b_n B)) 48 := q_inN (by omega) (by omega)
            have d1 : q_in (nI (4 * b_n B + 1)) 48 := q_inN (by omega) (by omega)
            have d2 : q_in (nI (4 * b_n B + 2)) 48 := q_inN (by omega) (by omega)
            have d3 : q_in (nI (4 * b_n B + 3)) 48 := q_inN (by omega) (by omega)
            have l0 : (nI (4 * b_n B)).toNatClampNeg = 4 * b_n B := nI_cl (by omega)
            have l1 : (nI (4 * b_n B + 1)).toNatClampNeg = 4 * b_n B + 1 := nI_cl (by omega)
            have l2 : (nI (4 * b_n B + 2)).toNatClampNeg = 4 * b_n B + 2 := nI_cl (by omega)
            have l3 : (nI (4 * b_n B + 3)).toNatClampNeg = 4 * b_n B + 3 := nI_cl (by omega)
            have m4 : (4 : Int32) * nI (b_n B) = nI (4 * b_n B) := by rw [L4, pk_mul]
            have m1 : nI (4 * b_n B) + (1 : Int32) = nI (4 * b_n B + 1) := by rw [L1, nI_add]
            have m2 : nI (4 * b_n B) + (2 : Int32) = nI (4 * b_n B + 2) := by rw [L2, nI_add]
            have m3 : nI (4 * b_n B) + (3 : Int32) = nI (4 * b_n B + 3) := by rw [L3, nI_add]
            rw [b0, if_neg (show ¬ nI (b_n B) = (12 : Int32) from fun z => hf ((nI_eq (b := 12) (by omega) (by omega)).mp z)), v99, q_b_s, if_pos c1, if_neg (by decide), v9, q_b_s, if_pos c2, if_neg (by decide), v9, q_b_s, if_pos c3, if_pos (by decide), b0]
            simp only [m4, if_pos d0, l0]
            refine qW_t ?_
            simp only [q_i_p_a, b0, m4, m1, if_pos d1, l1]
            refine qW_t ?_
            simp only [q_i_p_a, b0, m4, m2, if_pos d2, l2]
            refine qW_t ?_
            simp only [q_i_p_a, b0, m4, m3, if_pos d3, l3]
            refine qW_t ?_
            rw [nI0]
            refine qW.to (sX12_person_b104 hl 12 0 q_F _ rfl (q_Fn (by decide)) kp.rf ?_ (fun t ht => absurd ht (Nat.not_lt_zero t)) (fun c _ => rfl)) (fun v N2 g => ?_)
            · exact b0
            obtain ⟨g1, g2, g3, g4, g5⟩ := g
            refine ⟨g1, RM2.person h2 hB hl g3 ((g2.i (by decide)).trans rfl) (fun i => (g2.a (by decide)).trans rfl) (fun k hk => (g2.a (by decide)).trans ?_) ((g2.a (by decide)).trans ?_) ((g2.a (by decide)).trans ?_) ((g2.a (by decide)).trans ?_) ((g2.a (by decide)).trans ?_) g4 (fun c hc => (g5 c hc).trans rfl), (kp.tr (kp.tr (kp.tr (kp_a ⟨rfl, by decide⟩) (kp_a ⟨rfl, by decide⟩)) (kp_a ⟨rfl, by decide⟩)) (kp_a ⟨rfl, by decide⟩)).tr (g2.wd (fun a j z => ⟨z.1, by rcases z.2 with e | e <;> simp [e]⟩))⟩
            · simp only [q_a_p_a, true_and]
              rw [if_neg (by omega), if_neg (by omega), if_neg (by omega), if_neg (by omega)]
            · simp [q_a_p_a]
            · simp [q_a_p_a]
            · simp [q_a_p_a]
            · simp [q_a_p_a]
          obtain ⟨v, N2, e2, rfl, g2, k2⟩ := f2
          exact ⟨_, N1, N2, _, f1, e2, g1, g2, bA_ok hB hl (by omega) (by omega) (by omega), k1, k2, rfl, rfl⟩
      · refine stay ?_ ?_
        · unfold fX11_person
          rw [w99, q_b_s, if_pos c1, if_neg (by decide), w9, q_b_s, if_pos c2, if_neg (by decide), w9, q_b_s, if_neg c3, if_neg (by decide)]
        · unfold fX12_person
          by_cases hf : q_i M2 1000 0 = 12
          · rw [if_pos hf]
          · rw [if_neg hf, v99, q_b_s, if_pos c1, if_neg (by decide), v9, q_b_s, if_pos c2, if_neg (by decide), v9, q_b_s, if_neg c3, if_neg (by decide)]
    · refine stay ?_ ?_
      · unfold fX11_person
        rw [w99, q_b_s, if_pos c1, if_neg (by decide), w9, q_b_s, if_neg c2, if_pos rfl]
      · unfold fX12_person
        by_cases hf : q_i M2 1000 0 = 12
        · rw [if_pos hf]
        · rw [if_neg hf, v99, q_b_s, if_pos c1, if_neg (by decide), v9, q_b_s, if_neg c2, if_pos rfl]
  · refine stay ?_ ?_
    · unfold fX11_person
      rw [w99, q_b_s, if_neg c1, if_pos rfl]
    · unfold fX12_person
      by_cases hf : q_i M2 1000 0 = 12
      · rw [if_pos hf]
      · rw [if_neg hf, v99, q_b_s, if_neg c1, if_pos rfl]
end PAIRPERSON
