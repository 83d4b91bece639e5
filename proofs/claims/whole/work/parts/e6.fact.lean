/-! the class's reader: a fact -/
section FACT
variable {b : Nat → Nat} {n o : Nat} {H : HD}
theorem sX5_readFact (ho : 10 ≤ o) (hb : tp_ok n b) (h0 : 0 < h_n H) (h14 : h_n H ≤ 14) : ∀ (d x : Nat), x ≤ 10 → 10 < d + x → RK b n o H (fun M => fX5_readFact d M (nI x)) (p_fact b n d x) := by
  have hn := hb.1
  intro d
  induction d with
  | zero => intro x h1 h2; omega
  | succ d ih =>
    intro x hx hd
    refine ⟨(p_fact_ty (d + 1) x).bf, fun M s R hz => ?_⟩
    have hk := kd_lt hb.2 (z_p s)
    show qW (fX5_readFact_b0 (fX5_readFact d) M (nI x)) _
    unfold fX5_readFact_b0
    rw [R.1.kind, q_b_s]
    unfold p_fact
    by_cases c1 : p_kd b n s = 17
    · have c' : kd b n (z_p s) = 17 := c1
      rw [if_pos c1, c', if_pos (show nI 17 ≠ (347 : Int32) by decide)]
      unfold fX5_readFact_b24
      rw [if_neg (show ¬ (0 : Int32) ≠ 0 by decide), if_pos (show nI 17 = (17 : Int32) from rfl)]
      unfold fX5_readFact_b98
      by_cases cx : x < 10
      · obtain ⟨N1, e1, R1', k1⟩ := R.step ho (p_kd_on (b := b) (by omega))
        have g := kk_nx (b := b) (n := n) (s := s) (by omega)
        have len := nx_len (b := b) (n := n) (p := z_p s) (w := 17) (by decide) c1
        have hz1 := hz.nx (b := b) (k := 3) len g.2
        have hF := ih (x + 1) (by omega) (by omega)
        obtain ⟨r2, N2, e2, k2, g2⟩ := hF.2 N1 _ R1' (hz1.le (Nat.zero_le _))
        have e2 : fX5_readFact d N1 (nI (x + 1)) = some (r2, N2) := e2
        rw [if_pos cx]
        simp (disch := omega) only [y_lit, y_lt_T, y_lt_F, y_le_T, y_le_F, y_eq_T, y_eq_F, y_in_T, y_cl, ↓reduceIte, y_bs, y_bvs, y_os, y_on, y_t, ne_eq, not_true_eq_false, not_false_eq_true, pk_mul, nI_add]
        rw [e1, e2, q_b_s]
        cases hv : p_fact b n d (x + 1) (p_nx b n s) with
        | error f =>
          rw [hv] at g2
          obtain ⟨rfl, g2⟩ := g2
          rw [if_neg (by decide)]
          exact qW_s ⟨k1.tr k2, rfl, g2⟩
        | ok s2 =>
          rw [hv] at g2
          obtain ⟨rfl, R2⟩ := g2
          have hz2 := hF.1 _ _ _ hv hz1
          obtain ⟨N3, e3, R3, k3⟩ := sX2_addStep R2 ho (hz2.z hn) h0 h14 (9, 0)
          rw [if_pos (by decide), R2.2.2.1, show fX2_addStep N2 o (nI 20007) = some N3 from e3, q_bv_s]
          exact qW_s ⟨(k1.tr k2).tr k3, rfl, R3⟩
      · obtain ⟨v, N2, e2, rfl, g2⟩ := sX5_fail R hn 2 (by decide) (r := .error (fl 2 (z_p s))) rfl
        rw [if_neg cx]
        simp (disch := omega) only [y_lit, y_lt_T, y_lt_F, y_le_T, y_le_F, y_eq_T, y_eq_F, y_in_T, y_cl, ↓reduceIte, y_bs, y_bvs, y_os, y_on, y_t, ne_eq, not_true_eq_false, not_false_eq_true, pk_mul, nI_add]
        rw [e2, q_b_s, if_pos (by decide)]
        exact qW_s g2
    · have c1' : kd b n (z_p s) ≠ 17 := c1
      rw [if_neg c1]
      by_cases c2 : p_kd b n s = 347
      · have c' : kd b n (z_p s) = 347 := c2
        rw [if_pos c2, c', if_neg (show ¬ nI 347 ≠ (347 : Int32) by decide)]
        unfold fX5_readFact_b24
        rw [if_pos (show (1 : Int32) ≠ 0 by decide)]
        unfold fX5_readFact_b98
        by_cases cx : x < 10
        · obtain ⟨N1, e1, R1', k1⟩ := R.step ho (p_kd_on (b := b) (by omega))
          have g := kk_nx (b := b) (n := n) (s := s) (by omega)
          have hz1 := hz.nx (b := b) (k := 1) g.1 g.2
          have hF := sX5_readTest ho hb h0 h14 (rc := fX5_readFact d) (x := nI (x + 1)) (ih (x + 1) (by omega) (by omega)) (p_fact_ty d (x + 1))
          obtain ⟨r2, N2, e2, k2, g2⟩ := hF.2 N1 _ R1' (hz1.le (Nat.zero_le _))
          have e2 : fX5_readTest (fX5_readFact d) N1 (nI (x + 1)) = some (r2, N2) := e2
          rw [if_pos cx]
          simp (disch := omega) only [y_lit, y_lt_T, y_lt_F, y_le_T, y_le_F, y_eq_T, y_eq_F, y_in_T, y_cl, ↓reduceIte, y_bs, y_bvs, y_os, y_on, y_t, ne_eq, not_true_eq_false, not_false_eq_true, pk_mul, nI_add]
          rw [e1, e2, q_b_s]
          cases hv : p_tst b n (p_fact b n d (x + 1)) (p_nx b n s) with
          | error f =>
            rw [hv] at g2
            obtain ⟨rfl, g2⟩ := g2
            rw [if_pos (by decide)]
            exact qW_s ⟨k1.tr k2, rfl, g2⟩
          | ok s2 =>
            rw [hv] at g2
            obtain ⟨rfl, R2⟩ := g2
            rw [if_neg (by decide)]
            show qW _ (fun v N => PR1 M b n o H (if p_kd b n s2 = 349 then .ok (p_nx b n s2) else .error (fl 0 (z_p s2))) v N)
            rcases sX5_takes R2 ho hb.2 (k := 349) (by decide) (by decide) with ⟨c3, N3, e3, R3, k3⟩ | ⟨c3, e3⟩
            · rw [if_pos c3, e3, q_b_s, if_pos (by decide)]
              exact qW_s ⟨(k1.tr k2).tr k3, rfl, R3⟩
            · obtain ⟨v, N4, e4, rfl, g4⟩ := sX5_fail R2 hn 0 (by decide) (r := .error (fl 0 (z_p s2))) rfl
              rw [if_neg c3, e3, q_b_s, if_neg (by decide), e4, q_b_s, if_pos (by decide)]
              exact qW_s (PR1.tr (k1.tr k2) g4)
        · obtain ⟨v, N2, e2, rfl, g2⟩ := sX5_fail R hn 2 (by decide) (r := .error (fl 2 (z_p s))) rfl
          rw [if_neg cx]
          simp (disch := omega) only [y_lit, y_lt_T, y_lt_F, y_le_T, y_le_F, y_eq_T, y_eq_F, y_in_T, y_cl, ↓reduceIte, y_bs, y_bvs, y_os, y_on, y_t, ne_eq, not_true_eq_false, not_false_eq_true, pk_mul, nI_add]
          rw [e2, q_b_s, if_pos (by decide)]
          exact qW_s g2
      · have c' : kd b n (z_p s) ≠ 347 := c2
        rw [if_neg c2, if_pos (show nI (kd b n (z_p s)) ≠ (347 : Int32) from fun z => c' ((nI_eq (by omega) (by decide)).mp (show nI (kd b n (z_p s)) = nI 347 from z)))]
        exact sX5_cmp R ho hb hz h0 h14 (fun z => c1' ((nI_eq (by omega) (by decide)).mp (show nI (kd b n (z_p s)) = nI 17 from z)))
end FACT
