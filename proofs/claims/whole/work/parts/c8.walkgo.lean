/-! the WALK: the class's going -/
def SW (a j : Nat) : Prop := SA a j ∨ (a = 6 ∧ j ≠ 8)
theorem SW_5 {a j : Nat} (h : SW a j) : S5 a j := by
  unfold SW SA at h
  unfold S5 S1
  omega
/-- the walk at a place and a move -/
def WS (M : QM) (E : EV) (c0 c1 a w : Nat) (s0 : ST) (i m n : Nat) (s : ST) : Prop := n ≤ 4096 ∧ ∃ σ c g T F, σ i = s ∧ WM M E w n σ c g T F ∧ WI E s0 n σ c g T F i m ∧ AF M E c0 c1 ∧ MA M a
section WALKG
variable {nc c0 c1 a w n i : Nat} {E : EV} {M : QM} {s s0 : ST} {σ : Nat → ST} {c g T F : Nat → Nat}
theorem AF.s6 {N : QM} (A : AF M E c0 c1) (k : kp S6 M N) : AF N E c0 c1 := A.kept k (fun x j z => by unfold S6 at z; omega)
theorem MA.s6 {N : QM} (A : MA M a) (k : kp S6 M N) : MA N a := A.kept k (by unfold S6; omega) (by unfold S6; omega)
theorem sX10_spread_b10 (hv : v_ok nc E) (ha : a < 2000000000) (hw : w < 100000) (h0w : v_w E s0) (h00 : s_e s0 = 0) (hi : i < 4096) : ∀ (d m f n : Nat) (M : QM) (s : ST), m + d = 11 → d < f → WS M E c0 c1 a w s0 i m n s → qV (fX10_spread_b10 f M (nI i) (s_p s) (nI m)) (fun N => ∃ n2, WS N E c0 c1 a w s0 i 11 n2 s ∧ kp SW M N) := by
  intro d
  induction d with
  | zero =>
    intro m f n M s hm hf W
    obtain ⟨f, rfl⟩ : ∃ p, f = p + 1 := ⟨f - 1, by omega⟩
    have e : m = 11 := hm
    subst e
    refine ⟨M, ?_, n, W, kp.rf⟩
    simp (disch := omega) only [fX10_spread_b10, y_lit, y_lt_T, y_lt_F, y_le_T, y_le_F, y_eq_T, y_eq_F, y_in_T, y_cl, ↓reduceIte, y_bs, y_bvs, y_os, y_on, y_t, ne_eq, not_true_eq_false, not_false_eq_true, pk_mul, nI_add]
  | succ d ih =>
    intro m f n M s hm hf W
    obtain ⟨f, rfl⟩ : ∃ p, f = p + 1 := ⟨f - 1, by omega⟩
    obtain ⟨hn, σ, c, g, T, F, hσ, wm, wi, A, mA⟩ := W
    have hin := wi.1
    have sw := (wi.2.2.1.1 i hin)
    rw [hσ] at sw
    have al := sX0_allows hv A sw.1.1 (m := m) (by omega)
    by_cases cc : v_can E s m = true
    · rw [if_pos cc] at al
      obtain ⟨_, N1, e1, rfl, A1, m1, k1⟩ := sX0_after hv A mA (by omega) sw.1 cc true
      have e1 : fX0_after M (s_p s) (nI m) (nI 1) = some (s_p (v_a E s m true), N1) := e1
      have cc2 : v_can E (σ i) m = true := by rw [hσ]; exact cc
      have hw1 := WI.w hv wi cc2
      have s1 : s_1 E (σ i) m = v_a E s m true := by rw [hσ]; rfl
      rw [s1] at hw1
      have he5 : s_e (v_a E s m true) < 5 := hw1.1.2.2.2.2.2.1
      have wm1 := wm.kept k1 (fun j z => by unfold SA at z; omega)
      have ec : q_l N1 6 1 i = lN (c i) := (wm1.2.2.1 i hin).2.1
      have kw1 : kp SW M N1 := k1.wd (fun x j z => Or.inl z)
      have eo : m + i * 2 ^ 4 = 16 * i + m := by omega
      rw [fX10_spread_b10]
      simp (disch := omega) only [y_lit, y_lt_T, y_lt_F, y_le_T, y_le_F, y_eq_T, y_eq_F, y_in_T, y_cl, ↓reduceIte, y_bs, y_bvs, y_os, y_on, y_t, ne_eq, not_true_eq_false, not_false_eq_true, pk_mul, nI_add]
      rw [al]
      simp (disch := omega) only [y_lit, y_lt_T, y_lt_F, y_le_T, y_le_F, y_eq_T, y_eq_F, y_in_T, y_cl, ↓reduceIte, y_bs, y_bvs, y_os, y_on, y_t, ne_eq, not_true_eq_false, not_false_eq_true, pk_mul, nI_add]
      rw [e1, q_b_s, sX7_ending N1 hw1.1, q_b_s]
      by_cases ce : s_e (v_a E s m true) = 0
      · have ce2 : s_e (s_1 E (σ i) m) = 0 := by rw [s1]; exact ce
        simp (disch := omega) only [y_lit, y_lt_T, y_lt_F, y_le_T, y_le_F, y_eq_T, y_eq_F, y_in_T, y_cl, ↓reduceIte, y_bs, y_bvs, y_os, y_on, y_t, ne_eq, not_true_eq_false, not_false_eq_true, pk_mul, nI_add, ec, y_shl4, y_or4, eo]
        by_cases ex : ∃ k, k < n ∧ σ k = v_a E s m true
        · obtain ⟨k, hk, ek⟩ := ex
          obtain ⟨N2, e2, wm2, k2⟩ := sX10_arrive_old wm1 hw hn hw1 hk ek (c i) (16 * i + m)
          rw [e2, q_bv_s]
          have wi2 := wi.more cc2 ce2 hk (by rw [s1]; exact ek)
          obtain ⟨N3, e3, n3, W3, k3⟩ := ih (m + 1) f n N2 s (by omega) (by omega) ⟨hn, σ, _, g, T, F, hσ, wm2, wi2, A1.s6 k2, m1.s6 k2⟩
          simp only [fX10_spread_b87, y_lit, nI_add]
          exact ⟨N3, e3, n3, W3, (kw1.tr (k2.wd (fun x j z => Or.inr z))).tr k3⟩
        · have ex : ∀ k, k < n → σ k ≠ v_a E s m true := fun k hk z => ex ⟨k, hk, z⟩
          have fit := wm1.fits hv hw hw1 ce ex hn
          obtain ⟨N2, e2, wm2, k2⟩ := sX10_arrive_new hv wm1 hw hn hw1 ce ex (c i) (16 * i + m)
          rw [e2, q_bv_s]
          have wi2 := wi.new hv cc2 ce2
          rw [s1] at wi2
          obtain ⟨N3, e3, n3, W3, k3⟩ := ih (m + 1) f (n + 1) N2 s (by omega) (by omega) ⟨fit, _, _, _, T, F, (u_f_n _ _ (show i ≠ n by omega)).trans hσ, wm2, wi2, A1.s6 k2, m1.s6 k2⟩
          simp only [fX10_spread_b87, y_lit, nI_add]
          exact ⟨N3, e3, n3, W3, (kw1.tr (k2.wd (fun x j z => Or.inr z))).tr k3⟩
      · have ce2 : ¬ s_e (s_1 E (σ i) m) = 0 := by rw [s1]; exact ce
        have hu := s_u_lt hw1.1
        have hT := WI.le wi (by omega) hu
        have hT2 := v_W_b hv (nI (s_u (v_a E s m true))) h0w h00
        simp (disch := omega) only [y_lit, y_lt_T, y_lt_F, y_le_T, y_le_F, y_eq_T, y_eq_F, y_in_T, y_cl, ↓reduceIte, y_bs, y_bvs, y_os, y_on, y_t, ne_eq, not_true_eq_false, not_false_eq_true, pk_mul, nI_add, ec, y_shl4, y_or4, eo, sX7_outcome N1 hw1.1]
        obtain ⟨N2, e2, wm2, k2⟩ := sX10_reach wm1 hu (by omega) (c i) (16 * i + m)
        rw [e2, q_bv_s]
        have wi2 := wi.reach hv cc2 ce2 (by rw [s1])
        obtain ⟨N3, e3, n3, W3, k3⟩ := ih (m + 1) f n N2 s (by omega) (by omega) ⟨hn, σ, c, g, _, _, hσ, wm2, wi2, A1.s6 k2, m1.s6 k2⟩
        simp only [fX10_spread_b87, y_lit, nI_add]
        exact ⟨N3, e3, n3, W3, (kw1.tr (k2.wd (fun x j z => Or.inr z))).tr k3⟩
    · rw [if_neg cc] at al
      have cf : v_can E (σ i) m = false := by rw [hσ]; exact Bool.eq_false_iff.mpr cc
      obtain ⟨N3, e3, n3, W3, k3⟩ := ih (m + 1) f n M s (by omega) (by omega) ⟨hn, σ, c, g, T, F, hσ, wm, wi.skip (by omega) cf, A, mA⟩
      rw [fX10_spread_b10]
      simp (disch := omega) only [y_lit, y_lt_T, y_lt_F, y_le_T, y_le_F, y_eq_T, y_eq_F, y_in_T, y_cl, ↓reduceIte, y_bs, y_bvs, y_os, y_on, y_t, ne_eq, not_true_eq_false, not_false_eq_true, pk_mul, nI_add]
      rw [al]
      simp (disch := omega) only [y_lit, y_lt_T, y_lt_F, y_le_T, y_le_F, y_eq_T, y_eq_F, y_in_T, y_cl, ↓reduceIte, y_bs, y_bvs, y_os, y_on, y_t, ne_eq, not_true_eq_false, not_false_eq_true, pk_mul, nI_add, fX10_spread_b87]
      exact ⟨N3, e3, n3, W3, k3⟩
theorem sX10_go_b86 (hv : v_ok nc E) (ha : a < 2000000000) (hw : w < 100000) (h0w : v_w E s0) (h00 : s_e s0 = 0) : ∀ (d i f n : Nat) (M : QM), i + d = 4096 → d < f → (∃ s, WS M E c0 c1 a w s0 i 0 n s) → qV (fX10_go_b86 f M (nI i)) (fun N => ∃ n2 s, WS N E c0 c1 a w s0 (n2 - 1) 11 n2 s ∧ 0 < n2 ∧ kp SW M N) := by
  intro d
  induction d with
  | zero =>
    intro i f n M hi hf W
    obtain ⟨s, hn, σ, c, g, T, F, hσ, wm, wi, A, mA⟩ := W
    have := wi.1
    omega
  | succ d ih =>
    intro i f n M hi hf W
    obtain ⟨f, rfl⟩ : ∃ p, f = p + 1 := ⟨f - 1, by omega⟩
    obtain ⟨s, hn, σ, c, g, T, F, hσ, wm, wi, A, mA⟩ := W
    have hin := wi.1
    have e6 := wm.2.1
    have es := (wm.2.2.1 i hin).1
    rw [hσ] at es
    obtain ⟨N1, e1, n1, W1, k1⟩ := sX10_spread_b10 hv ha hw h0w h00 (by omega) 11 0 q_F n M s (by decide) (q_Fn (by decide)) ⟨hn, σ, c, g, T, F, hσ, wm, wi, A, mA⟩
    have sp : fX10_spread M (nI i) = some N1 := by
      unfold fX10_spread
      simp (disch := omega) only [y_lit, y_lt_T, y_lt_F, y_le_T, y_le_F, y_eq_T, y_eq_F, y_in_T, y_cl, ↓reduceIte, y_bs, y_bvs, y_os, y_on, y_t, ne_eq, not_true_eq_false, not_false_eq_true, pk_mul, nI_add, es]
      exact e1
    obtain ⟨hn1, σ1, c1', g1, T1, F1, hσ1, wm1, wi1, A1, mA1⟩ := W1
    rw [fX10_go_b86, e6]
    simp (disch := omega) only [y_lit, y_lt_T, y_lt_F, y_le_T, y_le_F, y_eq_T, y_eq_F, y_in_T, y_cl, ↓reduceIte, y_bs, y_bvs, y_os, y_on, y_t, ne_eq, not_true_eq_false, not_false_eq_true, pk_mul, nI_add]
    rw [sp, q_bv_s]
    by_cases q : i + 1 < n1
    · obtain ⟨N2, e2, n2, s2, W2, n20, k2⟩ := ih (i + 1) f n1 N1 (by omega) (by omega) ⟨_, hn1, σ1, c1', g1, T1, F1, rfl, wm1, wi1.next q, A1, mA1⟩
      exact ⟨N2, e2, n2, s2, W2, n20, k1.tr k2⟩
    · have hin1 := wi1.1
      have e : n1 = i + 1 := by omega
      subst e
      refine ⟨N1, ?_, i + 1, s, ⟨hn1, σ1, c1', g1, T1, F1, hσ1, wm1, wi1, A1, mA1⟩, by omega, k1⟩
      obtain ⟨f, rfl⟩ : ∃ p, f = p + 1 := ⟨f - 1, by omega⟩
      have e6 := wm1.2.1
      rw [fX10_go_b86, e6]
      simp (disch := omega) only [y_lit, y_lt_T, y_lt_F, y_le_T, y_le_F, y_eq_T, y_eq_F, y_in_T, y_cl, ↓reduceIte, y_bs, y_bvs, y_os, y_on, y_t, ne_eq, not_true_eq_false, not_false_eq_true, pk_mul, nI_add]
end WALKG
