/-! pairs: state, may, told, weighs, thinks -/
/-- two calls that only look: both answer alike, and change what may be changed -/
def LK (M1 M2 : QM) (a : Nat) (A A2 : Option (Int32 × QM)) : Prop := ∃ r N1 N2, A = some (r, N1) ∧ A2 = some (r, N2) ∧ kp S1 M1 N1 ∧ kp S2 M2 N2 ∧ ∃ b, b ≤ a + 1 ∧ MA N1 b
section PAIRSB
variable {nc a : Nat} {M M1 M2 : QM} {B : BK} {Cs : Nat → CD}
theorem sX11_codeAt {c : Nat} (hc : c < 6) : fX11_codeAt M (nI c) = some (10 + c, M) := by
  unfold fX11_codeAt
  simp (disch := omega) only [y_lit, y_lt_T, y_lt_F, y_le_T, y_le_F, y_eq_T, y_eq_F, y_in_T, y_cl, ↓reduceIte, y_bs, y_bvs, y_os, y_on, y_t, ne_eq, not_true_eq_false, not_false_eq_true, pk_mul, nI_add]
  rfl
theorem sX11_study (h : K1 M nc B Cs) (ok : KO nc B Cs) {o : Nat} {Q : QR} (hR : RQ1 M o Q) (hQ : r_ob (b_n B) nc Q) (hA : MA M a) (ha : a < 2000000000) : qV (fX11_study M o) (fun N => AF N (eQ B Cs Q) (r_c Q 0) (r_c Q 1) ∧ MA N (a + 1) ∧ kp SS M N) := by
  have h6 := ok.2.1
  have c0 : r_c Q 0 < 6 := Nat.lt_of_lt_of_le hQ.2.2.2.1 h6
  have c1 : r_c Q 1 < 6 := Nat.lt_of_lt_of_le hQ.2.2.2.2.1 h6
  unfold fX11_study
  rw [hR.2.2.1, sX11_codeAt c0, q_b_s, if_pos (kls_c c0), hR.2.2.2.1, sX11_codeAt c1, q_b_s, if_pos (kls_c c1), hR.1, hR.2.1, hR.2.2.2.2.1]
  refine qV_bv (qV.to (sX0_set (C0 := Cs (r_c Q 0)) (C1 := Cs (r_c Q 1)) h.1 (ok.v hQ) c0 c1 (h.2.1 _ hQ.2.2.2.1) (h.2.1 _ hQ.2.2.2.2.1) hA ha) (fun N g => ?_))
  exact qV_s g
theorem in_no {x : Int32} {n : Nat} (hn : n < 1000000) (h : q_out x (n + 1)) : ¬ (nI 0 ≤ x ∧ x ≤ nI n) := fun z => by
  rcases h with h | h
  · exact Int32.not_le.mpr h z.1
  · have := Int32.le_trans h z.2
    rw [nI_leI (by omega) (by omega)] at this
    omega
theorem in_yes {n k : Nat} (hn : n < 1000000) (h : k ≤ n) : nI 0 ≤ nI k ∧ nI k ≤ nI n := ⟨nI_le (Nat.zero_le _) (by omega), nI_le h (by omega)⟩
theorem w_in (M : QM) {n k : Nat} (hn : n < 1000000) (h : k ≤ n) : fX11_isWithin M (nI k) (nI 0) (nI n) = some (nI 1, M) := by
  rw [sX11_isWithin, if_pos (in_yes hn h)]
  rfl
theorem w_out (M : QM) {n : Nat} {x : Int32} (hn : n < 1000000) (h : q_out x (n + 1)) : fX11_isWithin M x (nI 0) (nI n) = some (nI 0, M) := by
  rw [sX11_isWithin, if_neg (in_no hn h)]
  rfl
theorem v_in (M : QM) {n k : Nat} (hn : n < 1000000) (h : k ≤ n) : fX12_in M (Int32.toInt64 (nI k)) (lN 0) (lN n) = some (nI 1, M) := by
  rw [sX12_in _ _ _ _ (by decide) (by omega), if_pos (in_yes hn h)]
  rfl
theorem v_out (M : QM) {n : Nat} {x : Int32} (hn : n < 1000000) (h : q_out x (n + 1)) : fX12_in M (Int32.toInt64 x) (lN 0) (lN n) = some (nI 0, M) := by
  rw [sX12_in _ _ _ _ (by decide) (by omega), if_neg (in_no hn h)]
  rfl
theorem L0l : (0 : Int64) = lN 0 := rfl
theorem out_ne {x : Int32} {n k : Nat} (h : q_out x n) (hk : k < n) (hn : n < 1000000) : x ≠ nI k := fun z => by
  subst z
  rcases h with h | h
  · exact nI_pos (by omega) h
  · exact nI_ge hk (by omega) h
theorem pair_state (h1 : K1 M1 nc B Cs) (h2 : K2 M2 nc B Cs) (ok : KO nc B Cs) (hA : MA M1 a) (x y : Int32) : LK M1 M2 a (fX11_state M1 x y) (fX12_state M2 x y) := by
  have h24 := ok.1.2.1
  have fin : ∀ (r : Int32) (N2 : QM), fX11_state M1 x y = some (r, M1) → fX12_state M2 x y = some (r, N2) → kp S2 M2 N2 → LK M1 M2 a (fX11_state M1 x y) (fX12_state M2 x y) := fun r N2 e1 e2 k => ⟨r, M1, N2, e1, e2, kp.rf, k, a, by omega, hA⟩
  rcases q_out_or x (n := b_q B) (by omega) with ox | ⟨q, hq, rfl⟩
  · refine fin (-1) M2 ?_ ?_ kp.rf
    · unfold fX11_state
      rw [sX1_quarrelAtO h1.1 ox, q_b_s, q_o_n]
    · unfold fX12_state
      rw [sX12_isQuarrelO h2.1 ox, q_b_s, if_pos rfl]
  · have hQ := ok.q hq
    have hR := h1.1.2.2.2 q hq
    have hnow := hQ.now
    have he : s_e (r_now (b_r B q)) < 5 := hnow.2.2.2.2.2.1
    obtain ⟨N2, e2, P, R, k2⟩ := sX12_loadLast h2 ok hq
    have e5 : q_a N2 1000 43 (64 * q + 5) = nI (r_n (b_r B q)) := (k2.a (by unfold S2; omega)).trans (h2.1.2.2.2 q hq).2.2.2.2.2.1
    have f1 : fX11_state M1 (nI q) y = q_b (fX4_now M1 (el 20 5 q)) fun r7 M8 => if y = (0 : Int32) then (q_b (fX7_ending M8 r7) fun r11 M12 => some (r11, M12)) else if y = (1 : Int32) then (q_b (fX7_less M8 r7) fun r15 M16 => some (r15, M16)) else if y = (2 : Int32) then (q_b (fX7_owed M8 r7 (0 : Int32)) fun r19 M20 => some (r19, M20)) else if y = (3 : Int32) then (q_b (fX7_owed M8 r7 (1 : Int32)) fun r23 M24 => some (r23, M24)) else if y = (4 : Int32) then (q_b (fX7_ending M8 r7) fun r27 M28 => if r27 ≠ (0 : Int32) then some ((-1 : Int32), M28) else (q_b (fX7_turn M28 r7) fun r30 M31 => some (r30, M31))) else if y = (5 : Int32) then (q_b (fX7_asked M8 r7) fun r35 M36 => some (r35 - (1 : Int32), M36)) else if y = (6 : Int32) then (q_b (fX7_left M8 r7) fun r39 M40 => some (r39, M40)) else if y = (7 : Int32) then some (q_i M8 (el 20 5 q) 7, M8) else some ((-1 : Int32), M8) := by
      unfold fX11_state
      rw [sX1_quarrelAt h1.1 h24 hq, q_b_s, q_o_s, if_pos (kls_q (by omega))]
    rw [sX4_now hR hQ, q_b_s] at f1
    rcases q_out_or y (n := 8) (by decide) with oy | ⟨k, hk, rfl⟩
    · have n0 := out_ne (k := 0) oy (by decide) (by decide)
      have n1 := out_ne (k := 1) oy (by decide) (by decide)
      have n2 := out_ne (k := 2) oy (by decide) (by decide)
      have n3 := out_ne (k := 3) oy (by decide) (by decide)
      have n4 := out_ne (k := 4) oy (by decide) (by decide)
      have n5 := out_ne (k := 5) oy (by decide) (by decide)
      have n6 := out_ne (k := 6) oy (by decide) (by decide)
      have n7 := out_ne (k := 7) oy (by decide) (by decide)
      refine fin (-nI 1) M2 ?_ ?_ kp.rf
      · rw [f1]
        simp (disch := omega) only [y_lit, y_lt_T, y_lt_F, y_le_T, y_le_F, y_eq_T, y_eq_F, y_in_T, y_cl, ↓reduceIte, y_bs, y_bvs, y_os, y_on, y_t, ne_eq, not_true_eq_false, not_false_eq_true, pk_mul, nI_add, n0, n1, n2, n3, n4, n5, n6, n7]
      · unfold fX12_state
        rw [sX12_isQuarrel h2.1 h24 hq, q_b_s, if_neg (by decide), L0l, show (7 : Int64) = lN 7 from rfl, v_out _ (by decide) oy, q_b_s, if_neg (by decide)]
        rfl
    · have f2 : fX12_state M2 (nI q) (nI k) = if nI k = nI 0 then some (q_i N2 1000 34, N2) else if nI k = nI 1 then some (q_i N2 1000 35, N2) else if nI k = nI 2 then some (q_a N2 1000 30 0, N2) else if nI k = nI 3 then some (q_a N2 1000 30 1, N2) else if nI k = nI 4 then (if q_i N2 1000 34 ≤ nI 0 then some (q_i N2 1000 31, N2) else some (-nI 1, N2)) else if nI k = nI 5 then some (q_i N2 1000 32, N2) else if nI k = nI 6 then some (q_i N2 1000 33, N2) else some (nI (r_n (b_r B q)), N2) := by
        unfold fX12_state
        rw [sX12_isQuarrel h2.1 h24 hq, q_b_s, if_neg (by decide), L0l, show (7 : Int64) = lN 7 from rfl, v_in _ (by decide) (by omega), q_b_s, if_pos (by decide), e2, q_bv_s]
        simp (disch := omega) only [y_lit, y_lt_T, y_lt_F, y_le_T, y_le_F, y_eq_T, y_eq_F, y_in_T, y_cl, ↓reduceIte, y_bs, y_bvs, y_os, y_on, y_t, ne_eq, not_true_eq_false, not_false_eq_true, pk_mul, nI_add, e5]
      rw [R.2.2.2.2.1, R.2.2.2.2.2, R.1 0 (by decide), R.1 1 (by decide), R.2.2.1, R.2.2.2.1] at f2
      have d01 := sX7_owed M1 hnow (k := 0) (by decide)
      have d02 := sX7_owed M1 hnow (k := 1) (by decide)
      have : k = 0 ∨ k = 1 ∨ k = 2 ∨ k = 3 ∨ k = 4 ∨ k = 5 ∨ k = 6 ∨ k = 7 := by omega
      rcases this with e | e | e | e | e | e | e | e <;> subst e
      · exact fin (nI (s_e (r_now (b_r B q)))) N2 (by rw [f1]; simp (disch := omega) only [y_lit, y_lt_T, y_lt_F, y_le_T, y_le_F, y_eq_T, y_eq_F, y_in_T, y_cl, ↓reduceIte, y_bs, y_bvs, y_os, y_on, y_t, ne_eq, not_true_eq_false, not_false_eq_true, pk_mul, nI_add, sX7_ending M1 hnow]) (by rw [f2]; simp (disch := omega) only [y_lit, y_lt_T, y_lt_F, y_le_T, y_le_F, y_eq_T, y_eq_F, y_in_T, y_cl, ↓reduceIte, y_bs, y_bvs, y_os, y_on, y_t, ne_eq, not_true_eq_false, not_false_eq_true, pk_mul, nI_add]) k2
      · exact fin (nI (s_z (r_now (b_r B q)))) N2 (by rw [f1]; simp (disch := omega) only [y_lit, y_lt_T, y_lt_F, y_le_T, y_le_F, y_eq_T, y_eq_F, y_in_T, y_cl, ↓reduceIte, y_bs, y_bvs, y_os, y_on, y_t, ne_eq, not_true_eq_false, not_false_eq_true, pk_mul, nI_add, sX7_less M1 hnow]) (by rw [f2]; simp (disch := omega) only [y_lit, y_lt_T, y_lt_F, y_le_T, y_le_F, y_eq_T, y_eq_F, y_in_T, y_cl, ↓reduceIte, y_bs, y_bvs, y_os, y_on, y_t, ne_eq, not_true_eq_false, not_false_eq_true, pk_mul, nI_add]) k2
      · exact fin (nI (s_o (r_now (b_r B q)) 0)) N2 (by rw [f1]; simp (disch := omega) only [y_lit, y_lt_T, y_lt_F, y_le_T, y_le_F, y_eq_T, y_eq_F, y_in_T, y_cl, ↓reduceIte, y_bs, y_bvs, y_os, y_on, y_t, ne_eq, not_true_eq_false, not_false_eq_true, pk_mul, nI_add, d01]) (by rw [f2]; simp (disch := omega) only [y_lit, y_lt_T, y_lt_F, y_le_T, y_le_F, y_eq_T, y_eq_F, y_in_T, y_cl, ↓reduceIte, y_bs, y_bvs, y_os, y_on, y_t, ne_eq, not_true_eq_false, not_false_eq_true, pk_mul, nI_add]) k2
      · exact fin (nI (s_o (r_now (b_r B q)) 1)) N2 (by rw [f1]; simp (disch := omega) only [y_lit, y_lt_T, y_lt_F, y_le_T, y_le_F, y_eq_T, y_eq_F, y_in_T, y_cl, ↓reduceIte, y_bs, y_bvs, y_os, y_on, y_t, ne_eq, not_true_eq_false, not_false_eq_true, pk_mul, nI_add, d02]) (by rw [f2]; simp (disch := omega) only [y_lit, y_lt_T, y_lt_F, y_le_T, y_le_F, y_eq_T, y_eq_F, y_in_T, y_cl, ↓reduceIte, y_bs, y_bvs, y_os, y_on, y_t, ne_eq, not_true_eq_false, not_false_eq_true, pk_mul, nI_add]) k2
      · by_cases h0 : s_e (r_now (b_r B q)) = 0
        · have e31 := R.2.1 h0
          exact fin (nI (s_t (r_now (b_r B q)))) N2 (by rw [f1]; simp (disch := omega) only [y_lit, y_lt_T, y_lt_F, y_le_T, y_le_F, y_eq_T, y_eq_F, y_in_T, y_cl, ↓reduceIte, y_bs, y_bvs, y_os, y_on, y_t, ne_eq, not_true_eq_false, not_false_eq_true, pk_mul, nI_add, sX7_ending M1 hnow, sX7_turn M1 hnow]) (by rw [f2, e31]; simp (disch := omega) only [y_lit, y_lt_T, y_lt_F, y_le_T, y_le_F, y_eq_T, y_eq_F, y_in_T, y_cl, ↓reduceIte, y_bs, y_bvs, y_os, y_on, y_t, ne_eq, not_true_eq_false, not_false_eq_true, pk_mul, nI_add]) k2
        · exact fin (-nI 1) N2 (by rw [f1]; simp (disch := omega) only [y_lit, y_lt_T, y_lt_F, y_le_T, y_le_F, y_eq_T, y_eq_F, y_in_T, y_cl, ↓reduceIte, y_bs, y_bvs, y_os, y_on, y_t, ne_eq, not_true_eq_false, not_false_eq_true, pk_mul, nI_add, sX7_ending M1 hnow]) (by rw [f2]; simp (disch := omega) only [y_lit, y_lt_T, y_lt_F, y_le_T, y_le_F, y_eq_T, y_eq_F, y_in_T, y_cl, ↓reduceIte, y_bs, y_bvs, y_os, y_on, y_t, ne_eq, not_true_eq_false, not_false_eq_true, pk_mul, nI_add]) k2
      · exact fin (nI (s_k (r_now (b_r B q))) - nI 1) N2 (by rw [f1]; simp (disch := omega) only [y_lit, y_lt_T, y_lt_F, y_le_T, y_le_F, y_eq_T, y_eq_F, y_in_T, y_cl, ↓reduceIte, y_bs, y_bvs, y_os, y_on, y_t, ne_eq, not_true_eq_false, not_false_eq_true, pk_mul, nI_add, sX7_asked M1 hnow]) (by rw [f2]; simp (disch := omega) only [y_lit, y_lt_T, y_lt_F, y_le_T, y_le_F, y_eq_T, y_eq_F, y_in_T, y_cl, ↓reduceIte, y_bs, y_bvs, y_os, y_on, y_t, ne_eq, not_true_eq_false, not_false_eq_true, pk_mul, nI_add]) k2
      · exact fin (nI (s_l (r_now (b_r B q)))) N2 (by rw [f1]; simp (disch := omega) only [y_lit, y_lt_T, y_lt_F, y_le_T, y_le_F, y_eq_T, y_eq_F, y_in_T, y_cl, ↓reduceIte, y_bs, y_bvs, y_os, y_on, y_t, ne_eq, not_true_eq_false, not_false_eq_true, pk_mul, nI_add, sX7_left M1 hnow]) (by rw [f2]; simp (disch := omega) only [y_lit, y_lt_T, y_lt_F, y_le_T, y_le_F, y_eq_T, y_eq_F, y_in_T, y_cl, ↓reduceIte, y_bs, y_bvs, y_os, y_on, y_t, ne_eq, not_true_eq_false, not_false_eq_true, pk_mul, nI_add]) k2
      · exact fin (nI (r_n (b_r B q))) N2 (by rw [f1]; simp (disch := omega) only [y_lit, y_lt_T, y_lt_F, y_le_T, y_le_F, y_eq_T, y_eq_F, y_in_T, y_cl, ↓reduceIte, y_bs, y_bvs, y_os, y_on, y_t, ne_eq, not_true_eq_false, not_false_eq_true, pk_mul, nI_add, hR.2.2.2.2.2.1]) (by rw [f2]; simp (disch := omega) only [y_lit, y_lt_T, y_lt_F, y_le_T, y_le_F, y_eq_T, y_eq_F, y_in_T, y_cl, ↓reduceIte, y_bs, y_bvs, y_os, y_on, y_t, ne_eq, not_true_eq_false, not_false_eq_true, pk_mul, nI_add]) k2
theorem pair_told (h1 : K1 M1 nc B Cs) (h2 : K2 M2 nc B Cs) (ok : KO nc B Cs) (x y : Int32) : ∃ r, fX11_told M1 x y = some (r, M1) ∧ fX12_told M2 x y = some (r, M2) := by
  have h6 := ok.2.1
  rcases q_out_or x (n := nc) (by omega) with ox | ⟨c, hc, rfl⟩
  · refine ⟨-nI 1, ?_, ?_⟩
    · unfold fX11_told
      rw [sX11_hasCodeO h1.2.2 ox]
      simp (disch := omega) only [y_lit, y_lt_T, y_lt_F, y_le_T, y_le_F, y_eq_T, y_eq_F, y_in_T, y_cl, ↓reduceIte, y_bs, y_bvs, y_os, y_on, y_t, ne_eq, not_true_eq_false, not_false_eq_true, pk_mul, nI_add]
    · unfold fX12_told
      rw [sX12_isCodeO h2.2.2.1 ox]
      simp (disch := omega) only [y_lit, y_lt_T, y_lt_F, y_le_T, y_le_F, y_eq_T, y_eq_F, y_in_T, y_cl, ↓reduceIte, y_bs, y_bvs, y_os, y_on, y_t, ne_eq, not_true_eq_false, not_false_eq_true, pk_mul, nI_add]
  · have hc6 : c < 6 := by omega
    obtain ⟨a8, a9, a10, a11, -⟩ := h1.2.1 c hc
    obtain ⟨b10, b11, b12, b13, -⟩ := h2.2.1 c hc
    have f1 : fX11_told M1 (nI c) y = if y = nI 0 then some (nI (c_a (Cs c)), M1) else if y = nI 1 then some (nI (c_h (Cs c)), M1) else if y = nI 2 then some (nI (c_m (Cs c)), M1) else if y = nI 3 then some (nI (c_n (Cs c)), M1) else some (-nI 1, M1) := by
      unfold fX11_told
      rw [sX11_hasCode h1.2.2 h6 hc]
      simp (disch := omega) only [y_lit, y_lt_T, y_lt_F, y_le_T, y_le_F, y_eq_T, y_eq_F, y_in_T, y_cl, ↓reduceIte, y_bs, y_bvs, y_os, y_on, y_t, ne_eq, not_true_eq_false, not_false_eq_true, pk_mul, nI_add, sX11_codeAt hc6, kls_c hc6, a8, a9, a10, a11]
    have f2 : fX12_told M2 (nI c) y = q_b (fX12_in M2 (Int32.toInt64 y) (lN 0) (lN 3)) fun r5 M6 => if r5 ≠ nI 0 then (if y ≠ nI 0 then if y ≠ nI 1 then if y ≠ nI 2 then some (q_a M6 1000 10 c, M6) else some (q_a M6 1000 13 c, M6) else some (q_a M6 1000 12 c, M6) else some (q_a M6 1000 11 c, M6)) else some (-nI 1, M6) := by
      unfold fX12_told
      rw [sX12_isCode h2.2.2.1 h6 hc]
      simp (disch := omega) only [y_lit, y_lt_T, y_lt_F, y_le_T, y_le_F, y_eq_T, y_eq_F, y_in_T, y_cl, ↓reduceIte, y_bs, y_bvs, y_os, y_on, y_t, ne_eq, not_true_eq_false, not_false_eq_true, pk_mul, nI_add, L0l, show (3 : Int64) = lN 3 from rfl]
    rcases q_out_or y (n := 4) (by decide) with oy | ⟨k, hk, rfl⟩
    · have n0 := out_ne (k := 0) oy (by decide) (by decide)
      have n1 := out_ne (k := 1) oy (by decide) (by decide)
      have n2 := out_ne (k := 2) oy (by decide) (by decide)
      have n3 := out_ne (k := 3) oy (by decide) (by decide)
      rw [v_out _ (by decide) oy] at f2
      simp (disch := omega) only [y_lit, y_lt_T, y_lt_F, y_le_T, y_le_F, y_eq_T, y_eq_F, y_in_T, y_cl, ↓reduceIte, y_bs, y_bvs, y_os, y_on, y_t, ne_eq, not_true_eq_false, not_false_eq_true, pk_mul, nI_add, n0, n1, n2, n3] at f1 f2
      exact ⟨_, f1, f2⟩
    · rw [v_in _ (by decide) (by omega)] at f2
      have : k = 0 ∨ k = 1 ∨ k = 2 ∨ k = 3 := by omega
      rcases this with e | e | e | e <;> subst e <;> simp (disch := omega) only [y_lit, y_lt_T, y_lt_F, y_le_T, y_le_F, y_eq_T, y_eq_F, y_in_T, y_cl, ↓reduceIte, y_bs, y_bvs, y_os, y_on, y_t, ne_eq, not_true_eq_false, not_false_eq_true, pk_mul, nI_add, b10, b11, b12, b13] at f1 f2 <;> exact ⟨_, f1, f2⟩
end PAIRSB
