/-! the class's reckoned -/
section RECKONED
variable {nc c0 c1 a : Nat} {M : QM} {E : EV}
theorem y_rem2 {n : Nat} (h : n < 2147483648) : nI n - nI n / nI 2 * nI 2 = nI (n % 2) := pk_rem h (by decide) (by decide)
theorem y_pred0 (i : Nat) (h : i < 2147483648) : (if nI 0 < nI i - nI 1 then nI i - nI 1 else nI 0) = nI (i - 1) := by
  by_cases c : i = 0
  · subst c
    rfl
  · rw [pk_sub (by omega)]
    by_cases c1 : i = 1
    · subst c1
      rfl
    · rw [if_pos (nI_lt (by omega) (by omega))]
theorem v_rk_lt {E : EV} (Q : QR) (who : Nat) : ∀ (n i x y : Nat), x < 16 → y < 16 → (v_rk E Q who n i x y).1 < 16 ∧ (v_rk E Q who n i x y).2 < 16 := by
  intro n
  induction n with
  | zero => intro i x y hx hy; exact ⟨hx, hy⟩
  | succ n ih =>
    intro i x y hx hy
    unfold v_rk
    split
    · exact ih _ _ _ hx hy
    · split
      · exact ih _ _ _ hx (v_ch_lt hy)
      · exact ih _ _ _ (v_ch_lt hx) hy
theorem sX0_reckoned_b15 (h : v_ok nc E) {o who : Nat} (hwho : who < 2) (ho : 100 ≤ o) {Q : QR} (hR : RQ1 M o Q) (hn : r_n Q ≤ 9) (hm : ∀ k, k < r_n Q → r_m Q k < 11) : ∀ (n i q : Nat) (N : QM) (x y : Nat), i + n = r_n Q → n < q → AF N E c0 c1 → MA N a → kp SA M N → x < 16 → y < 16 →
    qW (fX0_reckoned_b15 q N o (10 + c_e c0 c1 who) (nI x) (nI y) (nI i)) (fun r N1 => r = s_p ((v_rk E Q who n i x y).1, (v_rk E Q who n i x y).2, 0, 0, 0, 0, 0) ∧ AF N1 E c0 c1 ∧ MA N1 a ∧ kp SA M N1) := by
  intro n
  induction n with
  | zero =>
    intro i q N x y hi hq A hA k hx hy
    obtain ⟨q, rfl⟩ : ∃ p, q = p + 1 := ⟨q - 1, by omega⟩
    have e : i = r_n Q := hi
    subst e
    have h7 : q_i N o 7 = nI (r_n Q) := (k.i (fun z => by have := z.no; omega)).trans hR.2.2.2.2.2.1
    simp (disch := omega) only [fX0_reckoned_b15, fX0_reckoned_b132, y_lit, y_lt_T, y_lt_F, y_le_T, y_le_F, y_eq_T, y_eq_F, y_in_T, y_cl, ↓reduceIte, y_bs, y_bvs, y_os, y_on, y_t, ne_eq, not_true_eq_false, not_false_eq_true, pk_mul, nI_add, h7, sX7_of N hx hy (show 0 < 16 by decide) (show 0 < 2 by decide) (show 0 < 3 by decide)]
    exact qW_s ⟨rfl, A, hA, k⟩
  | succ n ih =>
    intro i q N x y hi hq A hA k hx hy
    obtain ⟨q, rfl⟩ : ∃ p, q = p + 1 := ⟨q - 1, by omega⟩
    have hRN : RQ1 N o Q := hR.kept k (fun j z => by have := z.no; omega)
    have h7 := hRN.2.2.2.2.2.1
    have hmi := hm i (by omega)
    have hc := c_e_lt A who
    have e1 : v_rk E Q who (n + 1) i x y = if 8 ≤ r_m Q i then v_rk E Q who n (i + 1) x y
      else if i % 2 = 0 then v_rk E Q who n (i + 1) x (v_ch y (r_m Q i) (w_v (v_c E who) (v_g E 0 y x (i - 1)) (r_m Q i)))
      else v_rk E Q who n (i + 1) (v_ch x (r_m Q i) (w_v (v_c E who) (v_g E 1 x y (i - 1)) (r_m Q i))) y := rfl
    rw [e1]
    have hi2 : i % 2 < 2 := Nat.mod_lt _ (by decide)
    have g_up : ∀ {N1 : QM} (t u v w : Nat), t < 2 → (q_a N1 (8 + t) 0 7 = nI u ∧ q_a N1 (8 + t) 0 8 = nI v ∧ q_a N1 (8 + t) 0 9 = nI w ∧ (∀ w, w < 7 → q_a N1 (8 + t) 0 w = q_a N (8 + t) 0 w)) → ∀ w', w' < 10 → q_a N1 (8 + t) 0 w' = v_g E t u v w w' := fun t u v w ht g w' hw => by
      by_cases e : w' < 7
      · rw [g.2.2.2 w' e, A.2.2.2.2.2.1 t ht w' e]
        exact g_w7 _ _ _ _ _ _ _ _ _ _ e
      · have : w' = 7 ∨ w' = 8 ∨ w' = 9 := by omega
        rcases this with e | e | e <;> subst e
        · exact g.1
        · exact g.2.1
        · exact g.2.2.1
    by_cases c8 : 8 ≤ r_m Q i
    · rw [if_pos c8]
      simp (disch := omega) only [fX0_reckoned_b15, fX0_reckoned_b126, y_lit, y_lt_T, y_lt_F, y_le_T, y_le_F, y_eq_T, y_eq_F, y_in_T, y_cl, ↓reduceIte, y_bs, y_bvs, y_os, y_on, y_t, ne_eq, not_true_eq_false, not_false_eq_true, pk_mul, nI_add, h7, sX4_moveAt hRN hn (show i < r_n Q by omega)]
      exact ih (i + 1) q N x y (by omega) (by omega) A hA k hx hy
    · rw [if_neg c8]
      by_cases c2 : i % 2 = 0
      · rw [if_pos c2]
        simp (disch := omega) only [fX0_reckoned_b15, y_lit, y_lt_T, y_lt_F, y_le_T, y_le_F, y_eq_T, y_eq_F, y_in_T, y_cl, ↓reduceIte, y_bs, y_bvs, y_os, y_on, y_t, ne_eq, not_true_eq_false, not_false_eq_true, pk_mul, nI_add, h7, sX4_moveAt hRN hn (show i < r_n Q by omega), y_pred0, y_rem2, c2]
        refine qW_kv (sX6_setHour N 8 _ _ _) (fun N1 g1 => ?_)
        have A1 : AF N1 E c0 c1 := A.sight (t := 0) (by decide) (g1.2.2.2.2.wd (fun x j z => Or.inl z)) g1.2.2.2.1
        have m1 : MA N1 a := hA.kept g1.2.2.2.2 (by decide) (by decide)
        have hg := g_up (N1 := N1) 0 y x (i - 1) (by decide) ⟨g1.1, g1.2.1, g1.2.2.1, g1.2.2.2.1⟩
        refine qW_k (sX2_weight (A1.2.2.2.2.1 who hwho) (h.c hwho) (by omega) hg (by omega)) (fun r N2 g2 => ?_)
        obtain ⟨rfl, k2⟩ := g2
        have A2 : AF N2 E c0 c1 := A1.sight (t := 0) (by decide) (k2.wd (fun x j z => Or.inr (by omega))) (fun w hw => k2.a (fun z => by omega))
        have m2 : MA N2 a := m1.kept k2 (fun z => by omega) (fun z => by omega)
        have kk : kp SA M N2 := (k.tr (g1.2.2.2.2.wd (fun x j z => by unfold SA; omega))).tr (k2.wd (fun x j z => by unfold SA; omega))
        have hw := w_v_lt (h.c hwho) (v_g E 0 y x (i - 1)) (r_m Q i)
        simp (disch := omega) only [y_lit, y_lt_T, y_lt_F, y_le_T, y_le_F, y_eq_T, y_eq_F, y_in_T, y_cl, ↓reduceIte, y_bs, y_bvs, y_os, y_on, y_t, ne_eq, not_true_eq_false, not_false_eq_true, pk_mul, nI_add, fX0_reckoned_b126, sX0_changed N2 hy (show r_m Q i < 8 by omega) hw]
        exact ih (i + 1) q N2 x _ (by omega) (by omega) A2 m2 kk hx (v_ch_lt hy)
      · rw [if_neg c2]
        have c3 : i % 2 = 1 := by omega
        simp (disch := omega) only [fX0_reckoned_b15, y_lit, y_lt_T, y_lt_F, y_le_T, y_le_F, y_eq_T, y_eq_F, y_in_T, y_cl, ↓reduceIte, y_bs, y_bvs, y_os, y_on, y_t, ne_eq, not_true_eq_false, not_false_eq_true, pk_mul, nI_add, h7, sX4_moveAt hRN hn (show i < r_n Q by omega), y_pred0, y_rem2, c3]
        refine qW_kv (sX6_setHour N 9 _ _ _) (fun N1 g1 => ?_)
        have A1 : AF N1 E c0 c1 := A.sight (t := 1) (by decide) (g1.2.2.2.2.wd (fun x j z => Or.inl z)) g1.2.2.2.1
        have m1 : MA N1 a := hA.kept g1.2.2.2.2 (by decide) (by decide)
        have hg := g_up (N1 := N1) 1 x y (i - 1) (by decide) ⟨g1.1, g1.2.1, g1.2.2.1, g1.2.2.2.1⟩
        refine qW_k (sX2_weight (A1.2.2.2.2.1 who hwho) (h.c hwho) (by omega) hg (by omega)) (fun r N2 g2 => ?_)
        obtain ⟨rfl, k2⟩ := g2
        have A2 : AF N2 E c0 c1 := A1.sight (t := 1) (by decide) (k2.wd (fun x j z => Or.inr (by omega))) (fun w hw => k2.a (fun z => by omega))
        have m2 : MA N2 a := m1.kept k2 (fun z => by omega) (fun z => by omega)
        have kk : kp SA M N2 := (k.tr (g1.2.2.2.2.wd (fun x j z => by unfold SA; omega))).tr (k2.wd (fun x j z => by unfold SA; omega))
        have hw := w_v_lt (h.c hwho) (v_g E 1 x y (i - 1)) (r_m Q i)
        simp (disch := omega) only [y_lit, y_lt_T, y_lt_F, y_le_T, y_le_F, y_eq_T, y_eq_F, y_in_T, y_cl, ↓reduceIte, y_bs, y_bvs, y_os, y_on, y_t, ne_eq, not_true_eq_false, not_false_eq_true, pk_mul, nI_add, fX0_reckoned_b126, sX0_changed N2 hx (show r_m Q i < 8 by omega) hw]
        exact ih (i + 1) q N2 _ y (by omega) (by omega) A2 m2 kk (v_ch_lt hx) hy
theorem sX0_reckoned (h : v_ok nc E) (A : AF M E c0 c1) (hA : MA M a) {o who : Nat} (hwho : who < 2) (ho : 100 ≤ o) {Q : QR} (hR : RQ1 M o Q) (hn : r_n Q ≤ 9) (hm : ∀ k, k < r_n Q → r_m Q k < 11) :
    qW (fX0_reckoned M o (nI who)) (fun r N1 => r = s_p ((v_rk E Q who (r_n Q) 0 0 0).1, (v_rk E Q who (r_n Q) 0 0 0).2, 0, 0, 0, 0, 0) ∧ AF N1 E c0 c1 ∧ MA N1 a ∧ kp SA M N1) := by
  unfold fX0_reckoned
  rw [A.code hwho, nI0]
  refine qW_e rfl ?_
  rw [if_pos (kls_c (c_e_lt A who))]
  exact sX0_reckoned_b15 h hwho ho hR hn hm (r_n Q) 0 q_F M 0 0 (by omega) (q_Fn (by omega)) A hA kp.rf (by decide) (by decide)
end RECKONED
