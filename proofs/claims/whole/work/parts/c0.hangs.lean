/-! pairs: hangs, harsh -/
theorem r_b_O (Q : QR) : ∀ n, r_b Q n = bO (fun i => decide (r_m Q i < 8)) n := by
  intro n
  induction n with
  | zero => rfl
  | succ n ih =>
    unfold r_b bO
    rw [ih]
    by_cases c : r_m Q n < 8
    · rw [if_pos c, if_pos (decide_eq_true c)]
    · rw [if_neg c, if_neg (by rw [decide_eq_false c]; decide)]
theorem r_b_and (Q : QR) {n i : Nat} (hi : i < n) : nI (r_b Q n) &&& nI (2 ^ i) = nI (if r_m Q i < 8 then 2 ^ i else 0) := by
  rw [nI_and, and_p2, r_b_O, bO_bit, decide_eq_true hi, Bool.true_and]
  by_cases c : r_m Q i < 8
  · rw [if_pos c, if_pos (decide_eq_true c)]
  · rw [if_neg c, if_neg (by rw [decide_eq_false c]; decide)]
theorem p2_bit {i j : Nat} : 2 ^ i / 2 ^ j % 2 = if i = j then 1 else 0 := by
  rw [bb_t, Nat.testBit_two_pow]
  by_cases c : i = j
  · rw [if_pos c, if_pos (decide_eq_true c)]
  · rw [if_neg c, if_neg (by rw [decide_eq_false c]; decide)]
theorem v_hD_un {E : EV} {Q : QR} (h0 : r_m Q 0 < 4) (hn : 0 < r_n Q) {i : Nat} (hi : ¬ r_m Q i < 8) : v_hD E Q (2 ^ i) = v_hD E Q 0 := by
  refine v_hD_same h0 hn (fun j _ hj => ?_)
  rw [p2_bit, if_neg (fun z => hi (by rw [z]; exact hj)), Nat.zero_div]
theorem p2_512 {i : Nat} (h : i < 9) : 2 ^ i < 512 := Nat.lt_of_lt_of_le (Nat.pow_lt_pow_right (by decide) h) (by decide)
section HANGS
variable {nc k c0 c1 : Nat} {M M1 M2 : QM} {B : BK} {Cs : Nat → CD} {E : EV}
theorem sX11_hangs_b60 {a g O : Nat} (h : v_ok nc E) (ha : a < 2000000000) (hg : g < 1000000) {o : Nat} (ho : 100 ≤ o) {Q : QR} (hR : RQ1 M o Q) (hn0 : 0 < r_n Q) (hn : r_n Q ≤ 9) (hm : ∀ k, k < r_n Q → r_m Q k < 11) (hm0 : r_m Q 0 < 4) (hO : O = (v_G E (v_hD E Q 0)).2) : ∀ (n i q : Nat) (N : QM), i + n = r_n Q → n < q → AF N E c0 c1 → MA N a → GA N E g → kp SG M N →
    qW (fX11_hangs_b60 q N o (nI O) (nI (r_b Q (r_n Q))) (nI (bO (fun i => decide (¬ (v_G E (v_hD E Q (2 ^ i))).2 = O)) i)) (nI i)) (fun r N1 => r = nI (bO (fun i => decide (¬ (v_G E (v_hD E Q (2 ^ i))).2 = O)) (r_n Q)) ∧ MA N1 a ∧ GA N1 E g ∧ kp SG M N1) := by
  intro n
  induction n with
  | zero =>
    intro i q N hi hq A hA G kN
    obtain ⟨q, rfl⟩ : ∃ p, q = p + 1 := ⟨q - 1, by omega⟩
    have e : i = r_n Q := hi
    subst e
    have h7 : q_i N o 7 = nI (r_n Q) := (kN.i (fun z => by unfold SG SA at z; omega)).trans hR.2.2.2.2.2.1
    simp (disch := omega) only [fX11_hangs_b60, y_lit, y_lt_T, y_lt_F, y_le_T, y_le_F, y_eq_T, y_eq_F, y_in_T, y_cl, ↓reduceIte, y_bs, y_bvs, y_os, y_on, y_t, ne_eq, not_true_eq_false, not_false_eq_true, pk_mul, nI_add, h7]
    exact qW_s ⟨rfl, hA, G, kN⟩
  | succ n ih =>
    intro i q N hi hq A hA G kN
    obtain ⟨q, rfl⟩ : ∃ p, q = p + 1 := ⟨q - 1, by omega⟩
    have hRN : RQ1 N o Q := hR.kept kN (fun j z => by unfold SG SA at z; omega)
    have h7 := hRN.2.2.2.2.2.1
    have eb : bO (fun i => decide (¬ (v_G E (v_hD E Q (2 ^ i))).2 = O)) (i + 1) = bO (fun i => decide (¬ (v_G E (v_hD E Q (2 ^ i))).2 = O)) i + if decide (¬ (v_G E (v_hD E Q (2 ^ i))).2 = O) then 2 ^ i else 0 := rfl
    have nx := ih (i + 1) q
    have ea := r_b_and Q (show i < r_n Q by omega)
    by_cases c8 : r_m Q i < 8
    · rw [if_pos c8] at ea
      have hp := p2_512 (show i < 9 by omega)
      have hp0 : 0 < 2 ^ i := Nat.two_pow_pos i
      obtain ⟨_, N2, e2, rfl, A2, m2, k2⟩ := sX0_heard h A hA (by omega) ho hRN hn0 hn hm hm0 hp
      have hw := v_hD_w h Q (2 ^ i)
      obtain ⟨_, N3, e3, rfl, A3, m3, G3, k3⟩ := sX3_outcomeFrom h ha (by omega) hw A2 m2 (G.kept k2 (fun j z => by unfold SA at z; omega))
      have l2 := (v_G_lt h hw).2
      have lO : O < 20 := by
        rw [hO]
        exact (v_G_lt h (v_hD_w h Q 0)).2
      have kk : kp SG M N3 := (kN.tr (k2.wd (fun x j z => Or.inl z))).tr k3
      rw [fX11_hangs_b60]
      simp (disch := omega) only [y_lit, y_lt_T, y_lt_F, y_le_T, y_le_F, y_eq_T, y_eq_F, y_in_T, y_cl, ↓reduceIte, y_bs, y_bvs, y_os, y_on, y_t, ne_eq, not_true_eq_false, not_false_eq_true, pk_mul, nI_add, h7, y_b31, ea]
      rw [e2]
      simp (disch := omega) only [y_lit, y_lt_T, y_lt_F, y_le_T, y_le_F, y_eq_T, y_eq_F, y_in_T, y_cl, ↓reduceIte, y_bs, y_bvs, y_os, y_on, y_t, ne_eq, not_true_eq_false, not_false_eq_true, pk_mul, nI_add]
      rw [e3]
      by_cases c : (v_G E (v_hD E Q (2 ^ i))).2 = O
      · rw [if_neg (by simp [c]), Nat.add_zero] at eb
        rw [eb] at nx
        simp (disch := omega) only [y_lit, y_lt_T, y_lt_F, y_le_T, y_le_F, y_eq_T, y_eq_F, y_in_T, y_cl, ↓reduceIte, y_bs, y_bvs, y_os, y_on, y_t, ne_eq, not_true_eq_false, not_false_eq_true, pk_mul, nI_add, fX11_hangs_b115]
        exact nx N3 (by omega) (by omega) A3 m3 G3 kk
      · rw [if_pos (by simp [c])] at eb
        rw [eb] at nx
        simp (disch := omega) only [y_lit, y_lt_T, y_lt_F, y_le_T, y_le_F, y_eq_T, y_eq_F, y_in_T, y_cl, ↓reduceIte, y_bs, y_bvs, y_os, y_on, y_t, ne_eq, not_true_eq_false, not_false_eq_true, pk_mul, nI_add, fX11_hangs_b115, bO_or]
        exact nx N3 (by omega) (by omega) A3 m3 G3 kk
    · rw [if_neg c8] at ea
      rw [if_neg (by rw [v_hD_un hm0 hn0 c8, hO]; simp), Nat.add_zero] at eb
      rw [eb] at nx
      rw [fX11_hangs_b60]
      simp (disch := omega) only [y_lit, y_lt_T, y_lt_F, y_le_T, y_le_F, y_eq_T, y_eq_F, y_in_T, y_cl, ↓reduceIte, y_bs, y_bvs, y_os, y_on, y_t, ne_eq, not_true_eq_false, not_false_eq_true, pk_mul, nI_add, h7, y_b31, ea, fX11_hangs_b115]
      exact nx N (by omega) (by omega) A hA G kN
theorem sX12_hangs_b26 (h2 : K2 M nc B Cs) (ok : KO nc B Cs) {q : Nat} (hq : q < b_q B) {O : Nat} (hO : O < 20) : ∀ (n i f : Nat) (N : QM), i + n = r_n (b_r B q) → n < f → kp S2 M N →
    qW (fX12_hangs_b26 f N (nI q) (nI O) (nI (bO (fun i => decide (¬ (v_G (eQ B Cs (b_r B q)) (v_hD (eQ B Cs (b_r B q)) (b_r B q) (2 ^ i))).2 = O)) i)) (nI i)) (fun r N1 => r = nI (bO (fun i => decide (¬ (v_G (eQ B Cs (b_r B q)) (v_hD (eQ B Cs (b_r B q)) (b_r B q) (2 ^ i))).2 = O)) (r_n (b_r B q))) ∧ kp S2 M N1) := by
  have h24 := ok.1.2.1
  have hQ := ok.q hq
  have hv := ok.v hQ.b
  have hn9 : r_n (b_r B q) ≤ 9 := hQ.2.2.2.2.2.2.2.1
  intro n
  induction n with
  | zero =>
    intro i f N hi hf kN
    obtain ⟨f, rfl⟩ : ∃ p, f = p + 1 := ⟨f - 1, by omega⟩
    have e : i = r_n (b_r B q) := hi
    subst e
    have t5 : q_a N 1000 43 (64 * q + 5) = nI (r_n (b_r B q)) := ((h2.kept kN (fun x j z => z)).1.2.2.2 q hq).2.2.2.2.2.1
    simp (disch := omega) only [fX12_hangs_b26, y_lit, y_lt_T, y_lt_F, y_le_T, y_le_F, y_eq_T, y_eq_F, y_in_T, y_cl, ↓reduceIte, y_bs, y_bvs, y_os, y_on, y_t, ne_eq, not_true_eq_false, not_false_eq_true, pk_mul, nI_add, t5]
    exact qW_s ⟨rfl, kN⟩
  | succ n ih =>
    intro i f N hi hf kN
    obtain ⟨f, rfl⟩ : ∃ p, f = p + 1 := ⟨f - 1, by omega⟩
    have KN := h2.kept kN (fun x j z => z)
    have t5 : q_a N 1000 43 (64 * q + 5) = nI (r_n (b_r B q)) := (KN.1.2.2.2 q hq).2.2.2.2.2.1
    have eb : bO (fun i => decide (¬ (v_G (eQ B Cs (b_r B q)) (v_hD (eQ B Cs (b_r B q)) (b_r B q) (2 ^ i))).2 = O)) (i + 1) = bO (fun i => decide (¬ (v_G (eQ B Cs (b_r B q)) (v_hD (eQ B Cs (b_r B q)) (b_r B q) (2 ^ i))).2 = O)) i + if decide (¬ (v_G (eQ B Cs (b_r B q)) (v_hD (eQ B Cs (b_r B q)) (b_r B q) (2 ^ i))).2 = O) then 2 ^ i else 0 := rfl
    have nx := ih (i + 1) f
    have hp := p2_512 (show i < 9 by omega)
    obtain ⟨N2, e2, P2, R2, k2⟩ := sX12_again KN ok hq hp
    have hw := v_hD_w hv (b_r B q) (2 ^ i)
    obtain ⟨_, N3, e3, rfl, P3, k3⟩ := sX12_plays hv P2 R2 hw
    have l2 := (v_G_lt hv hw).2
    have kk : kp S2 M N3 := (kN.tr (k2.wd (fun x j z => SDQ_2 z))).tr (k3.wd (fun x j z => SV_2 z))
    rw [fX12_hangs_b26]
    simp (disch := omega) only [y_lit, y_lt_T, y_lt_F, y_le_T, y_le_F, y_eq_T, y_eq_F, y_in_T, y_cl, ↓reduceIte, y_bs, y_bvs, y_os, y_on, y_t, ne_eq, not_true_eq_false, not_false_eq_true, pk_mul, nI_add, t5, y_b31]
    rw [e2]
    simp (disch := omega) only [y_lit, y_lt_T, y_lt_F, y_le_T, y_le_F, y_eq_T, y_eq_F, y_in_T, y_cl, ↓reduceIte, y_bs, y_bvs, y_os, y_on, y_t, ne_eq, not_true_eq_false, not_false_eq_true, pk_mul, nI_add]
    rw [e3]
    by_cases c : (v_G (eQ B Cs (b_r B q)) (v_hD (eQ B Cs (b_r B q)) (b_r B q) (2 ^ i))).2 = O
    · rw [if_neg (by simp [c]), Nat.add_zero] at eb
      rw [eb] at nx
      simp (disch := omega) only [y_lit, y_lt_T, y_lt_F, y_le_T, y_le_F, y_eq_T, y_eq_F, y_in_T, y_cl, ↓reduceIte, y_bs, y_bvs, y_os, y_on, y_t, ne_eq, not_true_eq_false, not_false_eq_true, pk_mul, nI_add, fX12_hangs_b68, nI_or0]
      exact nx N3 (by omega) (by omega) kk
    · rw [if_pos (by simp [c])] at eb
      rw [eb] at nx
      simp (disch := omega) only [y_lit, y_lt_T, y_lt_F, y_le_T, y_le_F, y_eq_T, y_eq_F, y_in_T, y_cl, ↓reduceIte, y_bs, y_bvs, y_os, y_on, y_t, ne_eq, not_true_eq_false, not_false_eq_true, pk_mul, nI_add, fX12_hangs_b68, bO_or]
      exact nx N3 (by omega) (by omega) kk
theorem pair_hangs (h1 : K1 M1 nc B Cs) (h2 : K2 M2 nc B Cs) (ok : KO nc B Cs) (hM : MK M1 k) (hk : k < 1000) (x : Int32) : LG M1 M2 k (fX11_hangs M1 x) (fX12_hangs M2 x) := by
  have h24 := ok.1.2.1
  rcases q_out_or x (n := b_q B) (by omega) with ox | ⟨q, hq, rfl⟩
  · refine ⟨-nI 1, M1, M2, ?_, ?_, kp.rf, kp.rf, hM.up⟩
    · unfold fX11_hangs
      rw [sX1_quarrelAtO h1.1 ox, q_b_s, q_o_n]
      rfl
    · unfold fX12_hangs
      rw [sX12_isQuarrelO h2.1 ox, q_b_s, if_neg (by decide)]
      rfl
  have hQ := ok.q hq
  have hR := h1.1.2.2.2 q hq
  have hv := ok.v hQ.b
  have hn0 : 0 < r_n (b_r B q) := hQ.2.2.2.2.2.2.1
  have hn9 : r_n (b_r B q) ≤ 9 := hQ.2.2.2.2.2.2.2.1
  have hm : ∀ k, k < r_n (b_r B q) → r_m (b_r B q) k < 11 := fun k hk => (hQ.2.2.2.2.2.2.2.2.1 k hk).1
  have hm0 := (ok.2.2.2 q hq).1
  have eo : el 20 5 q = 100 + q := by rw [el_qN (by decide)]
  obtain ⟨⟨a, ha, hA⟩, ⟨g, hg, hG⟩, v, hv2, hW⟩ := hM
  obtain ⟨N1, e1, A1, m1, k1⟩ := sX11_study h1 ok hR hQ.b hA (by omega)
  obtain ⟨N2, e2, G2, k2⟩ := sX3_begin (hG.kept k1 (fun j z => by unfold SS at z; omega)) (by omega) (eQ B Cs (b_r B q))
  have A2 := A1.kept k2 (fun x j z => Or.inl z.1)
  have m2 := m1.kept k2 (by decide) (by decide)
  have W2 := (hW.kept k1 (fun j z => by unfold SS at z; omega)).kept k2 (fun j z => by omega)
  have hR2 : RQ1 N2 (el 20 5 q) (b_r B q) := (hR.kept k1 (fun j z => by unfold SS at z; omega)).kept k2 (fun j z => by omega)
  obtain ⟨_, N3, e3, rfl, A3, m3, k3⟩ := sX0_heard hv A2 m2 (by omega) (o := el 20 5 q) (by omega) hR2 hn0 hn9 hm hm0 (u := 0) (by decide)
  have hw := v_hD_w hv (b_r B q) 0
  obtain ⟨_, N4, e4, rfl, A4, m4, G4, k4⟩ := sX3_outcomeFrom hv (by omega) (by omega) hw A3 m3 (G2.kept k3 (fun j z => by unfold SA at z; omega))
  have k24 : kp SG N2 N4 := (k3.wd (fun x j z => Or.inl z)).tr k4
  have hR4 : RQ1 N4 (el 20 5 q) (b_r B q) := hR2.kept k24 (fun j z => by unfold SG SA at z; omega)
  have l2 := (v_G_lt hv hw).2
  obtain ⟨_, P1, d1, rfl, m5, G5, k5⟩ := sX11_hangs_b60 hv (g := g + 1) (by omega) (by omega) (o := el 20 5 q) (by omega) hR4 hn0 hn9 hm hm0 rfl (r_n (b_r B q)) 0 q_F N4 (by omega) (q_Fn (by omega)) A4 m4 G4 kp.rf
  obtain ⟨Q1, f1, P, R, j1⟩ := sX12_again h2 ok hq (u := 0) (by decide)
  obtain ⟨_, Q2, f2, rfl, PP, j2⟩ := sX12_plays hv P R hw
  have K2' := (h2.kept j1 (fun x j z => SDQ_2 z)).kept j2 (fun x j z => SV_2 z)
  obtain ⟨_, P2, d2, rfl, j3⟩ := sX12_hangs_b26 K2' ok hq l2 (r_n (b_r B q)) 0 q_F Q2 (by omega) (q_Fn (by omega)) kp.rf
  refine ⟨nI (bO (fun i => decide (¬ (v_G (eQ B Cs (b_r B q)) (v_hD (eQ B Cs (b_r B q)) (b_r B q) (2 ^ i))).2 = (v_G (eQ B Cs (b_r B q)) (v_hD (eQ B Cs (b_r B q)) (b_r B q) 0)).2)) (r_n (b_r B q))), P1, P2, ?_, ?_, (((k1.wd (fun x j z => S1_5 (SS_1 z))).tr (k2.wd (fun x j z => Or.inr (Or.inl z.1)))).tr (k24.wd (fun x j z => SG_5 z))).tr (k5.wd (fun x j z => SG_5 z)), ((j1.wd (fun x j z => SDQ_2 z)).tr (j2.wd (fun x j z => SV_2 z))).tr j3, ⟨a + 1, by omega, m5⟩, ⟨g + 1, by omega, G5.m⟩, v, by omega, (W2.kept k24 (fun j z => by unfold SG SA at z; omega)).kept k5 (fun j z => by unfold SG SA at z; omega)⟩
  · unfold fX11_hangs
    rw [sX1_quarrelAt h1.1 h24 hq, q_b_s, q_o_s, if_pos (kls_q (by omega)), e1, q_bv_s, e2, q_bv_s, nI0, e3, q_b_s, e4, q_b_s, sX4_spoken hR4 hn9 hm, q_b_s]
    exact d1
  · unfold fX12_hangs
    rw [sX12_isQuarrel h2.1 h24 hq, q_b_s, if_pos (by decide), nI0, f1, q_bv_s, f2, q_b_s]
    exact d2
end HANGS
