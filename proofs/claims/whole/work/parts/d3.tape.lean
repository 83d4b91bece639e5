/-! the TAPE: feed, end -/
/-- a byte as the reference keeps it -/
def sg (b : Nat) : Int32 := if b < 128 then nI b else nI b - nI 256
theorem sg_and {b : Nat} (h : b < 256) : sg b &&& nI 255 = nI b := by
  have : ∀ b, b < 256 → sg b &&& nI 255 = nI b := by decide +kernel
  exact this b h
theorem sg_nar {b : Nat} (h : b < 256) : vp_nar .byte (sg b) = sg b := by
  have : ∀ b, b < 256 → vp_nar .byte (sg b) = sg b := by decide +kernel
  exact this b h
theorem sg_8 {b : Nat} (h : b < 256) : (nI b).toInt8.toInt32 = sg b := by
  have : ∀ b, b < 256 → (nI b).toInt8.toInt32 = sg b := by decide +kernel
  exact this b h
def y_B (y : Int32) : Nat := y.toBitVec.toNat % 256
theorem y_B_lt (y : Int32) : y_B y < 256 := Nat.mod_lt _ (by decide)
theorem y_B_1 (y : Int32) : y &&& nI 255 = nI (y_B y) := by
  have e : y = nI y.toBitVec.toNat := by
    apply Int32.toBitVec_inj.1
    apply BitVec.eq_of_toNat_eq
    rw [show (nI y.toBitVec.toNat).toBitVec = BitVec.ofNat 32 y.toBitVec.toNat from rfl, BitVec.toNat_ofNat, Nat.mod_eq_of_lt y.toBitVec.isLt]
  rw [e, pk_andN y.toBitVec.isLt 8 (by decide), ← e]
  rfl
theorem y_B_8 (y : Int32) : y.toInt8 = (nI (y_B y)).toInt8 := by
  apply Int8.toInt_inj.1
  rw [Int32.toInt_toInt8, Int32.toInt_toInt8, nI_toInt (Nat.lt_trans (y_B_lt y) (by decide))]
  have e : y.toInt = y.toBitVec.toInt := rfl
  have b := y.toBitVec.isLt
  rw [e, BitVec.toInt_eq_toNat_cond]
  unfold y_B
  generalize y.toBitVec.toNat = n at b ⊢
  split
  · simp only [Int.bmod]
    omega
  · simp only [Int.bmod]
    omega
theorem y_B_2 (y : Int32) : vp_nar .byte (y.toInt8.toInt32) = sg (y_B y) := by
  rw [y_B_8, sg_8 (y_B_lt y), sg_nar (y_B_lt y)]
/-- how the class and the reference hold the tape -/
def TP1 (M : QM) (n : Nat) (b : Nat → Nat) : Prop := q_i M 1 1 = nI n ∧ ∀ i, i < n → q_a M 1 0 i = nI (b i)
def TP2 (M : QM) (n : Nat) (b : Nat → Nat) : Prop := q_i M 1000 4 = nI n ∧ ∀ i, i < n → q_a M 1000 3 i = sg (b i)
def tp_ok (n : Nat) (b : Nat → Nat) : Prop := n ≤ 400 ∧ ∀ i, i < n → b i < 256
def ST1 (a j : Nat) : Prop := a = 1 ∧ (j = 0 ∨ j = 1)
def ST2 (a j : Nat) : Prop := a = 1000 ∧ (j = 3 ∨ j = 4)
/-- the bytes with a byte more -/
def t_p (b : Nat → Nat) (n : Nat) (x : Int32) (s : Nat) : Nat → Nat := u_f b n (y_B (x >>> (nI s &&& nI 31)))
theorem t_p_ok {n : Nat} {b : Nat → Nat} (h : tp_ok n b) (hn : n < 400) (x : Int32) (s : Nat) : tp_ok (n + 1) (t_p b n x s) := by
  refine ⟨hn, fun i hi => ?_⟩
  unfold t_p
  by_cases q : i = n
  · subst q
    rw [u_f_e]
    exact y_B_lt _
  · rw [u_f_n _ _ q]
    exact h.2 i (by omega)
section TAPE
variable {n : Nat} {b : Nat → Nat} {M M1 M2 : QM}
theorem sX8_add_b3 (h : TP1 M n b) (hn : n < 400) (x : Int32) {s : Nat} (hs : s < 32) (q : Nat) : ∃ N, fX8_add_b3 (q + 1) M x (nI s) = fX8_add_b3 q N x (nI s + -nI 8) ∧ TP1 N (n + 1) (t_p b n x s) ∧ kp ST1 M N := by
  refine ⟨p_i (p_a M 1 0 n (nI (y_B (x >>> (nI s &&& nI 31))))) 1 1 (nI (n + 1)), ?_, ⟨?_, fun i hi => ?_⟩, (kp_a ⟨rfl, Or.inl rfl⟩).tr (kp_i ⟨rfl, Or.inr rfl⟩)⟩
  · rw [fX8_add_b3]
    simp (disch := omega) only [y_lit, y_lt_T, y_lt_F, y_le_T, y_le_F, y_eq_T, y_eq_F, y_in_T, y_cl, ↓reduceIte, y_bs, y_bvs, y_os, y_on, y_t, ne_eq, not_true_eq_false, not_false_eq_true, pk_mul, nI_add, h.1, y_ii, y_ia, y_il, y_ir, y_ai, y_aa, y_al, y_ar, y_li, y_la, y_ll, y_lr, y_ri, y_ra, y_rl, y_rr, and_true, true_and, and_false, false_and, and_self, if_true, if_false, Nat.reduceEqDiff, reduceCtorEq, or_false, false_or, or_true, true_or, y_B_1]
  · simp only [y_ii, y_ia, y_il, y_ir, y_ai, y_aa, y_al, y_ar, y_li, y_la, y_ll, y_lr, y_ri, y_ra, y_rl, y_rr, and_true, true_and, and_false, false_and, and_self, if_true, if_false, Nat.reduceEqDiff, reduceCtorEq, or_false, false_or, or_true, true_or]
  · unfold t_p
    by_cases q2 : i = n
    · subst q2
      simp only [y_ii, y_ia, y_il, y_ir, y_ai, y_aa, y_al, y_ar, y_li, y_la, y_ll, y_lr, y_ri, y_ra, y_rl, y_rr, and_true, true_and, and_false, false_and, and_self, if_true, if_false, Nat.reduceEqDiff, reduceCtorEq, or_false, false_or, or_true, true_or, u_f_e]
    · simp only [y_ii, y_ia, y_il, y_ir, y_ai, y_aa, y_al, y_ar, y_li, y_la, y_ll, y_lr, y_ri, y_ra, y_rl, y_rr, and_true, true_and, and_false, false_and, and_self, if_true, if_false, Nat.reduceEqDiff, reduceCtorEq, or_false, false_or, or_true, true_or, q2, u_f_n _ _ q2]
      exact h.2 i (by omega)
theorem sX12_four_b3 (h : TP2 M n b) (hn : n < 400) (x : Int32) {s : Nat} (hs : s < 32) (q : Nat) : ∃ N, fX12_four_b3 (q + 1) M x (nI s) = fX12_four_b3 q N x (nI s + -nI 8) ∧ TP2 N (n + 1) (t_p b n x s) ∧ kp ST2 M N := by
  refine ⟨p_i (p_a M 1000 3 n (sg (y_B (x >>> (nI s &&& nI 31))))) 1000 4 (nI (n + 1)), ?_, ⟨?_, fun i hi => ?_⟩, (kp_a ⟨rfl, Or.inl rfl⟩).tr (kp_i ⟨rfl, Or.inr rfl⟩)⟩
  · rw [fX12_four_b3]
    simp (disch := omega) only [y_lit, y_lt_T, y_lt_F, y_le_T, y_le_F, y_eq_T, y_eq_F, y_in_T, y_cl, ↓reduceIte, y_bs, y_bvs, y_os, y_on, y_t, ne_eq, not_true_eq_false, not_false_eq_true, pk_mul, nI_add, h.1, y_ii, y_ia, y_il, y_ir, y_ai, y_aa, y_al, y_ar, y_li, y_la, y_ll, y_lr, y_ri, y_ra, y_rl, y_rr, and_true, true_and, and_false, false_and, and_self, if_true, if_false, Nat.reduceEqDiff, reduceCtorEq, or_false, false_or, or_true, true_or, y_B_2]
  · simp only [y_ii, y_ia, y_il, y_ir, y_ai, y_aa, y_al, y_ar, y_li, y_la, y_ll, y_lr, y_ri, y_ra, y_rl, y_rr, and_true, true_and, and_false, false_and, and_self, if_true, if_false, Nat.reduceEqDiff, reduceCtorEq, or_false, false_or, or_true, true_or]
  · unfold t_p
    by_cases q2 : i = n
    · subst q2
      simp only [y_ii, y_ia, y_il, y_ir, y_ai, y_aa, y_al, y_ar, y_li, y_la, y_ll, y_lr, y_ri, y_ra, y_rl, y_rr, and_true, true_and, and_false, false_and, and_self, if_true, if_false, Nat.reduceEqDiff, reduceCtorEq, or_false, false_or, or_true, true_or, u_f_e]
    · simp only [y_ii, y_ia, y_il, y_ir, y_ai, y_aa, y_al, y_ar, y_li, y_la, y_ll, y_lr, y_ri, y_ra, y_rl, y_rr, and_true, true_and, and_false, false_and, and_self, if_true, if_false, Nat.reduceEqDiff, reduceCtorEq, or_false, false_or, or_true, true_or, q2, u_f_n _ _ q2]
      exact h.2 i (by omega)
/-- four bytes more -/
def t_4 (b : Nat → Nat) (n : Nat) (x : Int32) : Nat → Nat := t_p (t_p (t_p (t_p b n x 24) (n + 1) x 16) (n + 2) x 8) (n + 3) x 0
theorem m8_24 : nI 24 + -nI 8 = nI 16 := by decide
theorem m8_16 : nI 16 + -nI 8 = nI 8 := by decide
theorem m8_8 : nI 8 + -nI 8 = nI 0 := by decide
theorem m8_0 : nI 0 + -nI 8 = -nI 8 := by decide
theorem m8_lt : -nI 8 < (0 : Int32) := by decide
theorem sX8_add (h : TP1 M n b) (hn : n + 4 ≤ 400) (x : Int32) : ∃ N, fX8_add M x = some N ∧ TP1 N (n + 4) (t_4 b n x) ∧ kp ST1 M N := by
  obtain ⟨f, hf⟩ : ∃ f, q_F = f + 5 := ⟨99995, rfl⟩
  unfold fX8_add
  rw [hf]
  generalize f = f
  obtain ⟨N1, e1, T1, k1⟩ := sX8_add_b3 h (by omega) x (s := 24) (by decide) (f + 4)
  obtain ⟨N2, e2, T2, k2⟩ := sX8_add_b3 T1 (by omega) x (s := 16) (by decide) (f + 3)
  obtain ⟨N3, e3, T3, k3⟩ := sX8_add_b3 T2 (by omega) x (s := 8) (by decide) (f + 2)
  obtain ⟨N4, e4, T4, k4⟩ := sX8_add_b3 T3 (by omega) x (s := 0) (by decide) (f + 1)
  refine ⟨N4, ?_, T4, ((k1.tr k2).tr k3).tr k4⟩
  rw [m8_24] at e1
  rw [m8_16] at e2
  rw [m8_8] at e3
  rw [m8_0] at e4
  have e5 : fX8_add_b3 (f + 1) N4 x (-nI 8) = some N4 := by
    rw [fX8_add_b3, if_pos m8_lt]
  exact e1.trans (e2.trans (e3.trans (e4.trans e5)))
theorem sX12_four (h : TP2 M n b) (hn : n + 4 ≤ 400) (x : Int32) : ∃ N, fX12_four M x = some N ∧ TP2 N (n + 4) (t_4 b n x) ∧ kp ST2 M N := by
  obtain ⟨f, hf⟩ : ∃ f, q_F = f + 5 := ⟨99995, rfl⟩
  unfold fX12_four
  rw [hf]
  generalize f = f
  obtain ⟨N1, e1, T1, k1⟩ := sX12_four_b3 h (by omega) x (s := 24) (by decide) (f + 4)
  obtain ⟨N2, e2, T2, k2⟩ := sX12_four_b3 T1 (by omega) x (s := 16) (by decide) (f + 3)
  obtain ⟨N3, e3, T3, k3⟩ := sX12_four_b3 T2 (by omega) x (s := 8) (by decide) (f + 2)
  obtain ⟨N4, e4, T4, k4⟩ := sX12_four_b3 T3 (by omega) x (s := 0) (by decide) (f + 1)
  refine ⟨N4, ?_, T4, ((k1.tr k2).tr k3).tr k4⟩
  rw [m8_24] at e1
  rw [m8_16] at e2
  rw [m8_8] at e3
  rw [m8_0] at e4
  have e5 : fX12_four_b3 (f + 1) N4 x (-nI 8) = some N4 := by
    rw [fX12_four_b3, if_pos m8_lt]
  exact e1.trans (e2.trans (e3.trans (e4.trans e5)))
theorem t_4_ok (h : tp_ok n b) (hn : n + 4 ≤ 400) (x : Int32) : tp_ok (n + 4) (t_4 b n x) := t_p_ok (t_p_ok (t_p_ok (t_p_ok h (by omega) x 24) (by omega) x 16) (by omega) x 8) (by omega) x 0
/-- two calls that write the tape -/
def LT (M1 M2 : QM) (A A2 : Option (Int32 × QM)) : Prop := ∃ r N1 N2 n b, A = some (r, N1) ∧ A2 = some (r, N2) ∧ TP1 N1 n b ∧ TP2 N2 n b ∧ tp_ok n b ∧ kp ST1 M1 N1 ∧ kp ST2 M2 N2
theorem pair_feed (h1 : TP1 M1 n b) (h2 : TP2 M2 n b) (ok : tp_ok n b) (x1 x2 x3 x4 x5 : Int32) : LT M1 M2 (fX11_feed M1 x1 x2 x3 x4 x5) (fX12_feed M2 x1 x2 x3 x4 x5) := by
  have hn := ok.1
  by_cases c : n + 20 ≤ 400
  · obtain ⟨N1, e1, T1, k1⟩ := sX8_add h1 (by omega) x1
    obtain ⟨N2, e2, T2, k2⟩ := sX8_add T1 (by omega) x2
    obtain ⟨N3, e3, T3, k3⟩ := sX8_add T2 (by omega) x3
    obtain ⟨N4, e4, T4, k4⟩ := sX8_add T3 (by omega) x4
    obtain ⟨N5, e5, T5, k5⟩ := sX8_add T4 (by omega) x5
    obtain ⟨P1, f1, U1, l1⟩ := sX12_four h2 (by omega) x1
    obtain ⟨P2, f2, U2, l2⟩ := sX12_four U1 (by omega) x2
    obtain ⟨P3, f3, U3, l3⟩ := sX12_four U2 (by omega) x3
    obtain ⟨P4, f4, U4, l4⟩ := sX12_four U3 (by omega) x4
    obtain ⟨P5, f5, U5, l5⟩ := sX12_four U4 (by omega) x5
    refine ⟨nI (n + 4 + 4 + 4 + 4 + 4), N5, P5, _, _, ?_, ?_, T5, U5, t_4_ok (t_4_ok (t_4_ok (t_4_ok (t_4_ok ok (by omega) x1) (by omega) x2) (by omega) x3) (by omega) x4) (by omega) x5, (((k1.tr k2).tr k3).tr k4).tr k5, (((l1.tr l2).tr l3).tr l4).tr l5⟩
    · unfold fX11_feed
      simp (disch := omega) only [y_lit, y_lt_T, y_lt_F, y_le_T, y_le_F, y_eq_T, y_eq_F, y_in_T, y_cl, ↓reduceIte, y_bs, y_bvs, y_os, y_on, y_t, ne_eq, not_true_eq_false, not_false_eq_true, pk_mul, nI_add, h1.1]
      rw [e1, q_bv_s, e2, q_bv_s, e3, q_bv_s, e4, q_bv_s, e5, q_bv_s, T5.1]
    · unfold fX12_feed
      simp (disch := omega) only [y_lit, y_lt_T, y_lt_F, y_le_T, y_le_F, y_eq_T, y_eq_F, y_in_T, y_cl, ↓reduceIte, y_bs, y_bvs, y_os, y_on, y_t, ne_eq, not_true_eq_false, not_false_eq_true, pk_mul, nI_add, h2.1]
      rw [f1, q_bv_s, f2, q_bv_s, f3, q_bv_s, f4, q_bv_s, f5, q_bv_s, U5.1]
  · refine ⟨-1, M1, M2, n, b, ?_, ?_, h1, h2, ok, kp.rf, kp.rf⟩
    · unfold fX11_feed
      rw [h1.1, if_neg (show ¬ nI n + (20 : Int32) ≤ (400 : Int32) from (show ¬ nI n + nI 20 ≤ nI 400 by rw [nI_add]; exact nI_ge (by omega) (by omega)))]
    · unfold fX12_feed
      rw [h2.1, if_neg (show ¬ nI n + (20 : Int32) ≤ (400 : Int32) from (show ¬ nI n + nI 20 ≤ nI 400 by rw [nI_add]; exact nI_ge (by omega) (by omega)))]
theorem pair_end (h1 : TP1 M1 n b) (h2 : TP2 M2 n b) (ok : tp_ok n b) (x : Int32) : LT M1 M2 (fX11_end M1 x) (fX12_end M2 x) := by
  have hn := ok.1
  rcases q_out_or x (n := n + 1) (by omega) with o | ⟨k, hk, rfl⟩
  · have z1 : fX11_isWithin M1 x 0 (nI n) = some (0, M1) := w_out M1 (n := n) (by omega) o
    refine ⟨-1, M1, M2, n, b, ?_, ?_, h1, h2, ok, kp.rf, kp.rf⟩
    · unfold fX11_end
      rw [h1.1, z1, q_b_s, if_neg (by decide)]
    · unfold fX12_end
      by_cases c : x < 0
      · rw [if_pos c]
      · rw [if_neg c, h2.1, if_neg]
        intro z
        rcases o with o | o
        · exact c o
        · have := Int32.le_trans o z
          exact nI_ge (show n < n + 1 by omega) (by omega) this
  · have z1 : fX11_isWithin M1 (nI k) 0 (nI n) = some (1, M1) := w_in M1 (n := n) (by omega) (by omega)
    refine ⟨nI k, p_i M1 1 1 (nI k), p_i M2 1000 4 (nI k), k, b, ?_, ?_, ⟨?_, fun i hi => ?_⟩, ⟨?_, fun i hi => ?_⟩, ⟨by omega, fun i hi => ok.2 i (by omega)⟩, kp_i ⟨rfl, Or.inr rfl⟩, kp_i ⟨rfl, Or.inr rfl⟩⟩
    · unfold fX11_end
      rw [h1.1, z1, q_b_s, if_pos (by decide)]
      rfl
    · unfold fX12_end
      simp (disch := omega) only [y_lit, y_lt_T, y_lt_F, y_le_T, y_le_F, y_eq_T, y_eq_F, y_in_T, y_cl, ↓reduceIte, y_bs, y_bvs, y_os, y_on, y_t, ne_eq, not_true_eq_false, not_false_eq_true, pk_mul, nI_add, h2.1]
    · simp only [y_ii, y_ia, y_il, y_ir, y_ai, y_aa, y_al, y_ar, y_li, y_la, y_ll, y_lr, y_ri, y_ra, y_rl, y_rr, and_true, true_and, and_false, false_and, and_self, if_true, if_false, Nat.reduceEqDiff, reduceCtorEq, or_false, false_or, or_true, true_or]
    · simp only [y_ii, y_ia, y_il, y_ir, y_ai, y_aa, y_al, y_ar, y_li, y_la, y_ll, y_lr, y_ri, y_ra, y_rl, y_rr, and_true, true_and, and_false, false_and, and_self, if_true, if_false, Nat.reduceEqDiff, reduceCtorEq, or_false, false_or, or_true, true_or]
      exact h1.2 i (by omega)
    · simp only [y_ii, y_ia, y_il, y_ir, y_ai, y_aa, y_al, y_ar, y_li, y_la, y_ll, y_lr, y_ri, y_ra, y_rl, y_rr, and_true, true_and, and_false, false_and, and_self, if_true, if_false, Nat.reduceEqDiff, reduceCtorEq, or_false, false_or, or_true, true_or]
    · simp only [y_ii, y_ia, y_il, y_ir, y_ai, y_aa, y_al, y_ar, y_li, y_la, y_ll, y_lr, y_ri, y_ra, y_rl, y_rr, and_true, true_and, and_false, false_and, and_self, if_true, if_false, Nat.reduceEqDiff, reduceCtorEq, or_false, false_or, or_true, true_or]
      exact h2.2 i (by omega)
end TAPE
