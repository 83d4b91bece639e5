/-! the class's after, whole -/
section AFTERD
variable {nc c0 c1 a : Nat} {M : QM} {E : EV}
theorem sX0_weighed (A : AF M E c0 c1) (h : v_ok nc E) {k : Nat} (hk : k < 2) (g : Nat → Int32) (m : Nat) : fX0_weighed M (nI (w_N (v_c E k) g m)) (10 + c_e c0 c1 k) = some (nI (w_V (v_c E k) g (v_m E) m), M) := by
  have ok := h.c hk
  have hW := w_le g m ok
  have hRC := A.2.2.2.2.1 k hk
  obtain ⟨R, hR, eR, hz⟩ := A.2.2.2.2.2.2.2.1
  have hz := hz k hk
  have h14 := ok.2.2.2.2.1
  have hle := fF_le (fun i => decide (c_S (v_c E k) i = m) && c_H (v_c E k) g i) (c_n (v_c E k))
  have hle : w_N (v_c E k) g m ≤ c_n (v_c E k) := hle
  have e1 : nI R <<< (nI 1 &&& nI 31) = nI (R * 2 ^ 1) := pk_shlN _ 1 (by decide) (by omega)
  have eV : w_V (v_c E k) g (v_m E) m = if w_N (v_c E k) g m = 0 then 0 else c_V (v_c E k) (v_m E) (w_N (v_c E k) g m - 1) := rfl
  unfold fX0_weighed fX2_numberOf
  rw [eR]
  by_cases z : w_N (v_c E k) g m = 0
  · rw [if_pos z] at eV
    rw [z, eV]
    have e2 : R * 2 ^ 1 / 2 ^ 0 % 2 = 0 := by omega
    simp (disch := omega) only [y_lit, y_lt_T, y_lt_F, y_le_T, y_le_F, y_eq_T, y_eq_F, y_in_T, y_cl, ↓reduceIte, y_bs, y_bvs, y_os, y_on, y_t, ne_eq, not_true_eq_false, not_false_eq_true, pk_mul, nI_add, e1, y_bit, e2]
    rw [if_pos (show nI 0 - nI 1 < nI 0 by decide)]
    rfl
  · obtain ⟨i, ei⟩ : ∃ i, w_N (v_c E k) g m = i + 1 := ⟨w_N (v_c E k) g m - 1, by omega⟩
    rw [if_neg z, ei, Nat.add_sub_cancel] at eV
    rw [ei, eV]
    have hi : i < c_n (v_c E k) := by omega
    have hb := hz i hi
    have ep : 2 ^ (i + 1) = 2 * 2 ^ i := by rw [Nat.pow_succ, Nat.mul_comm]
    have e2 : R * 2 ^ 1 / 2 ^ (i + 1) % 2 = R / 2 ^ i % 2 := by
      rw [ep, ← Nat.div_div_eq_div_mul, show R * 2 ^ 1 / 2 = R by omega]
    have e3 : nI (i + 1) - nI 1 = nI i := pk_sub (by omega)
    have ev := (hRC.2.2.2.2.1 i hi).2.2.1
    unfold c_V
    by_cases c : c_s (v_c E k) i = 1 ∧ v_m E / 2 ^ c_b (v_c E k) i % 2 = 1
    · rw [if_pos c.1, c.2] at hb
      rw [if_pos c]
      simp (disch := omega) only [y_lit, y_lt_T, y_lt_F, y_le_T, y_le_F, y_eq_T, y_eq_F, y_in_T, y_cl, ↓reduceIte, y_bs, y_bvs, y_os, y_on, y_t, ne_eq, not_true_eq_false, not_false_eq_true, pk_mul, nI_add, e1, y_bit, e2, hb]
    · have hb0 : R / 2 ^ i % 2 = 0 := by
        rw [hb]
        split
        · have : v_m E / 2 ^ c_b (v_c E k) i % 2 < 2 := Nat.mod_lt _ (by decide)
          omega
        · rfl
      rw [if_neg c]
      simp (disch := omega) only [y_lit, y_lt_T, y_lt_F, y_le_T, y_le_F, y_eq_T, y_eq_F, y_in_T, y_cl, ↓reduceIte, y_bs, y_bvs, y_os, y_on, y_t, ne_eq, not_true_eq_false, not_false_eq_true, pk_mul, nI_add, e1, y_bit, e2, hb0, e3, ev]
theorem v_o_s {s : ST} {m : Nat} (n : Bool) (h : ¬ (n = true ∧ m < 8)) : v_o E s m n = s_o s (1 - s_t s) := if_neg h
theorem sX0_after (h : v_ok nc E) (A : AF M E c0 c1) (hA : MA M a) (ha : a < 2147483648) {s : ST} (hs : v_w E s) {m : Nat} (hm : v_can E s m = true) (n : Bool) :
    qW (fX0_after M (s_p s) (nI m) (nI (if n then 1 else 0))) (fun r N => r = s_p (v_a E s m n) ∧ AF N E c0 c1 ∧ MA N a ∧ kp SA M N) := by
  obtain ⟨h0, hm11, hcase⟩ := v_canI.mp hm
  have ht : s_t s < 2 := hs.1.2.2.2.1
  have hk3 : s_k s < 3 := hs.1.2.2.2.2.1
  have hl : s_l s < 16 := hs.1.2.2.1
  have hz0 : s_z s = 0 := (hs.2 h0).1
  have e1 : nI 1 - nI (s_t s) = nI (1 - s_t s) := pk_sub (by omega)
  have o1 := s_ol hs.1 (s_t s)
  have o2 := s_ol hs.1 (1 - s_t s)
  have oT : s_o s (s_t s) = if s_t s = 0 then s_o s 0 else s_o s 1 := by
    by_cases e : s_t s = 0
    · rw [if_pos e, e]
    · rw [if_neg e, show s_t s = 1 by omega]
  have fin : ∀ {N : QM}, AF N E c0 c1 → MA N a → kp SA M N → s_k s = 0 → qW (fX0_after_b113 N (s_p s) (nI m) (nI (s_t s)) (nI (1 - s_t s)) (nI (s_o s (s_t s))) (nI (v_o E s m n))) (fun r N => r = s_p (v_a E s m n) ∧ AF N E c0 c1 ∧ MA N a ∧ kp SA M N) := fun {N} A1 A2 k hk => by
    rw [sX0_after_b113 A1 h hs h0 hm11 o1 (v_o_lt h hs.1 m n)]
    refine qW_s ⟨?_, A1, A2, k⟩
    unfold v_a
    rw [if_pos hk]
    by_cases e : s_t s = 0
    · simp only [e, if_true]
    · have e2 : s_t s = 1 := by omega
      simp only [e2, if_false, Nat.reduceEqDiff]
  unfold fX0_after
  rw [sX7_turn M hs.1, q_b_s, sX7_asked M hs.1, q_b_s]
  rcases hcase with ⟨hk, -⟩ | ⟨hk, hmm⟩
  · simp (disch := omega) only [y_lit, y_lt_T, y_lt_F, y_le_T, y_le_F, y_eq_T, y_eq_F, y_in_T, y_cl, ↓reduceIte, y_bs, y_bvs, y_os, y_on, y_t, ne_eq, not_true_eq_false, not_false_eq_true, pk_mul, nI_add, sX7_owed M hs.1 ht, e1, sX7_owed M hs.1 (show 1 - s_t s < 2 by omega)]
    have hv := v_o_s (E := E) (s := s) (m := m) n
    cases n with
    | false =>
      have hv := hv (by simp)
      have f := fin A hA kp.rf hk
      rw [hv] at f
      simp (disch := omega) only [y_lit, y_lt_T, y_lt_F, y_le_T, y_le_F, y_eq_T, y_eq_F, y_in_T, y_cl, ↓reduceIte, y_bs, y_bvs, y_os, y_on, y_t, ne_eq, not_true_eq_false, not_false_eq_true, pk_mul, nI_add, Bool.false_eq_true, if_false]
      exact f
    | true =>
      simp (disch := omega) only [y_lit, y_lt_T, y_lt_F, y_le_T, y_le_F, y_eq_T, y_eq_F, y_in_T, y_cl, ↓reduceIte, y_bs, y_bvs, y_os, y_on, y_t, ne_eq, not_true_eq_false, not_false_eq_true, pk_mul, nI_add, if_true]
      by_cases m8 : m < 8
      · have hm4 : (s_k s = 0) := hk
        simp (disch := omega) only [y_lit, y_lt_T, y_lt_F, y_le_T, y_le_F, y_eq_T, y_eq_F, y_in_T, y_cl, ↓reduceIte, y_bs, y_bvs, y_os, y_on, y_t, ne_eq, not_true_eq_false, not_false_eq_true, pk_mul, nI_add]
        refine qW_k (sX0_look h A hA ha hs h0) (fun r N g1 => ?_)
        obtain ⟨hlk, A1, A2, k1⟩ := g1
        obtain ⟨V, rfl, hV, hV2⟩ := hlk.1 hk
        have hc := c_e_lt A1 (1 - s_t s)
        have hw := w_V_lt (h.c (k := 1 - s_t s) (by omega)) (v_s E s) (v_m E) m
        simp (disch := omega) only [y_lit, y_lt_T, y_lt_F, y_le_T, y_le_F, y_eq_T, y_eq_F, y_in_T, y_cl, ↓reduceIte, y_bs, y_bvs, y_os, y_on, y_t, ne_eq, not_true_eq_false, not_false_eq_true, pk_mul, nI_add, A1.code (show 1 - s_t s < 2 by omega), kls_c hc, if_true, y_nib hV m8, hV2 m m8, sX0_weighed A1 h (show 1 - s_t s < 2 by omega) (v_s E s) m, sX0_changed N o2 m8 hw]
        have f := fin A1 A2 k1 hk
        unfold v_o at f
        rw [if_pos ⟨rfl, m8⟩] at f
        exact f
      · have hv := hv (by omega)
        have f := fin A hA kp.rf hk
        rw [hv] at f
        simp (disch := omega) only [y_lit, y_lt_T, y_lt_F, y_le_T, y_le_F, y_eq_T, y_eq_F, y_in_T, y_cl, ↓reduceIte, y_bs, y_bvs, y_os, y_on, y_t, ne_eq, not_true_eq_false, not_false_eq_true, pk_mul, nI_add]
        exact f
  · simp (disch := omega) only [y_lit, y_lt_T, y_lt_F, y_le_T, y_le_F, y_eq_T, y_eq_F, y_in_T, y_cl, ↓reduceIte, y_bs, y_bvs, y_os, y_on, y_t, ne_eq, not_true_eq_false, not_false_eq_true, pk_mul, nI_add]
    rcases hmm with e8 | e9
    · subst e8
      simp (disch := omega) only [y_lit, y_lt_T, y_lt_F, y_le_T, y_le_F, y_eq_T, y_eq_F, y_in_T, y_cl, ↓reduceIte, y_bs, y_bvs, y_os, y_on, y_t, ne_eq, not_true_eq_false, not_false_eq_true, pk_mul, nI_add]
      rw [sX7_ended M hs.1 h0 hz0 (by decide) (by decide), q_b_s]
      refine qW_s ⟨?_, A, hA, kp.rf⟩
      unfold v_a
      rw [if_neg hk, if_pos rfl]
    · subst e9
      simp (disch := omega) only [y_lit, y_lt_T, y_lt_F, y_le_T, y_le_F, y_eq_T, y_eq_F, y_in_T, y_cl, ↓reduceIte, y_bs, y_bvs, y_os, y_on, y_t, ne_eq, not_true_eq_false, not_false_eq_true, pk_mul, nI_add]
      refine qW_k (sX0_look h A hA ha hs h0) (fun r N g1 => ?_)
      obtain ⟨hlk, A1, A2, k1⟩ := g1
      have e := hlk.2 hk
      have e3 : nI 1 + nI (s_t s) = nI (1 + s_t s) := nI_add _ _
      unfold fX0_after_b47
      by_cases w : w_R (v_c E (1 - s_t s)) (v_s E s) = 0
      · rw [if_pos w] at e
        subst e
        simp (disch := omega) only [y_lit, y_lt_T, y_lt_F, y_le_T, y_le_F, y_eq_T, y_eq_F, y_in_T, y_cl, ↓reduceIte, y_bs, y_bvs, y_os, y_on, y_t, ne_eq, not_true_eq_false, not_false_eq_true, pk_mul, nI_add, e3]
        rw [sX7_ended N hs.1 h0 hz0 (show 3 < 5 by decide) (show 1 + s_t s < 4 by omega), q_b_s]
        refine qW_s ⟨?_, A1, A2, k1⟩
        unfold v_a
        rw [if_neg hk, if_neg (by decide), if_pos w]
      · rw [if_neg w] at e
        subst e
        simp (disch := omega) only [y_lit, y_lt_T, y_lt_F, y_le_T, y_le_F, y_eq_T, y_eq_F, y_in_T, y_cl, ↓reduceIte, y_bs, y_bvs, y_os, y_on, y_t, ne_eq, not_true_eq_false, not_false_eq_true, pk_mul, nI_add]
        rw [sX7_ended N hs.1 h0 hz0 (show 3 < 5 by decide) (show 0 < 4 by decide), q_b_s]
        refine qW_s ⟨?_, A1, A2, k1⟩
        unfold v_a
        rw [if_neg hk, if_neg (by decide), if_neg w]
/-- only sights and stacks change: the affair stays -/
theorem AF.sight (A : AF M E c0 c1) {N : QM} {t : Nat} (ht : t < 2) (k : kp (fun x j => (x = 8 + t ∧ j = 0) ∨ (10 ≤ x ∧ x < 20 ∧ j = 6)) M N) (hw : ∀ w, w < 7 → q_a N (8 + t) 0 w = q_a M (8 + t) 0 w) : AF N E c0 c1 := by
  have no : ∀ {j : Nat}, ¬ ((4 = 8 + t ∧ j = 0) ∨ (10 ≤ 4 ∧ 4 < 20 ∧ j = 6)) := fun z => by omega
  have hc := c_e_lt A
  obtain ⟨h1, h2, h3, h4, h5, h6, h7, ⟨R, h8, h9, h10⟩, h11⟩ := A
  refine ⟨h1, h2, (k.r no).trans h3, (k.r no).trans h4, fun q hq => (h5 q hq).any k (fun j z => by have := hc q; omega), fun q hq w hw7 => ?_, (k.i no).trans h7, ⟨R, h8, (k.i no).trans h9, h10⟩, fun u hu hu0 he => ?_⟩
  · by_cases e : q = t
    · subst e
      exact (hw w hw7).trans (h6 q hq w hw7)
    · exact (k.a (fun z => by omega)).trans (h6 q hq w hw7)
  · rw [k.a no, k.i no] at he
    rw [k.a no]
    exact h11 u hu hu0 he
theorem sX0_open (h : v_ok nc E) (A : AF M E c0 c1) (hA : MA M a) {kind : Nat} (hk : kind < 4) (n : Bool) : qW (fX0_open M (nI kind) (nI (if n then 1 else 0))) (fun r N => r = s_p (v_1 E kind n) ∧ AF N E c0 c1 ∧ MA N a ∧ kp SA M N) := by
  have hh := v_h_le h
  have fin : ∀ {N : QM} (x : Nat), AF N E c0 c1 → MA N a → kp SA M N → x < 16 → x = (if n then w_v (v_c E 1) (v_g E 0 0 0 0) kind else 0) → qW (fX0_open_b35 N (nI x)) (fun r N => r = s_p (v_1 E kind n) ∧ AF N E c0 c1 ∧ MA N a ∧ kp SA M N) := fun {N} x A1 A2 k hx e => by
    have h7 : q_i N 4 4 = nI (v_h E) := A1.2.2.2.2.2.2.1
    have ok1 : s_ok (0, x, v_h E, 1, 0, 0, 0) := s_okM (by decide) hx (by omega) (by decide) (by decide) (by decide) (by decide)
    unfold fX0_open_b35 v_1
    rw [← e]
    by_cases z : x = 0
    · subst z
      simp (disch := omega) only [y_lit, y_lt_T, y_lt_F, y_le_T, y_le_F, y_eq_T, y_eq_F, y_in_T, y_cl, ↓reduceIte, y_bs, y_bvs, y_os, y_on, y_t, ne_eq, not_true_eq_false, not_false_eq_true, pk_mul, nI_add, h7, sX7_of N (show 0 < 16 by decide) hx (show v_h E < 16 by omega) (show 1 < 2 by decide) (show 0 < 3 by decide), sX7_ended N ok1 rfl rfl (show 1 < 5 by decide) (show 0 < 4 by decide)]
      exact qW_s ⟨rfl, A1, A2, k⟩
    · simp (disch := omega) only [y_lit, y_lt_T, y_lt_F, y_le_T, y_le_F, y_eq_T, y_eq_F, y_in_T, y_cl, ↓reduceIte, y_bs, y_bvs, y_os, y_on, y_t, ne_eq, not_true_eq_false, not_false_eq_true, pk_mul, nI_add, h7, sX7_of N (show 0 < 16 by decide) hx (show v_h E < 16 by omega) (show 1 < 2 by decide) (show 0 < 3 by decide), z]
      exact qW_s ⟨rfl, A1, A2, k⟩
  unfold fX0_open
  refine qW_kv (sX6_setHour M 8 0 0 0) (fun N g1 => ?_)
  obtain ⟨v7, v8, v9, vw, k1⟩ := g1
  have A1 : AF N E c0 c1 := A.sight (t := 0) (by decide) (k1.wd (fun x j z => Or.inl z)) vw
  have k2 : kp SA M N := k1.wd (fun x j z => by unfold SA; omega)
  have m1 : MA N a := hA.kept k1 (by decide) (by decide)
  cases n with
  | false =>
    have f := fin 0 A1 m1 k2 (by decide) rfl
    simp (disch := omega) only [y_lit, y_lt_T, y_lt_F, y_le_T, y_le_F, y_eq_T, y_eq_F, y_in_T, y_cl, ↓reduceIte, y_bs, y_bvs, y_os, y_on, y_t, ne_eq, not_true_eq_false, not_false_eq_true, pk_mul, nI_add, Bool.false_eq_true, if_false]
    exact f
  | true =>
    have hc1 : 10 + c_e c0 c1 1 = 10 + c1 := rfl
    have hg : ∀ w, w < 10 → q_a N 8 0 w = v_g E 0 0 0 0 w := fun w hw => by
      by_cases e : w < 7
      · exact (vw w e).trans (A.2.2.2.2.2.1 0 (by decide) w e)
      · have : w = 7 ∨ w = 8 ∨ w = 9 := by omega
        rcases this with e | e | e <;> subst e
        · exact v7
        · exact v8
        · exact v9
    have hR : RC1 N (10 + c1) (v_c E 1) := A1.2.2.2.2.1 1 (by decide)
    have hlt := w_v_lt (h.c (k := 1) (by decide)) (v_g E 0 0 0 0) kind
    have h1l := A.2.1
    simp (disch := omega) only [y_lit, y_lt_T, y_lt_F, y_le_T, y_le_F, y_eq_T, y_eq_F, y_in_T, y_cl, ↓reduceIte, y_bs, y_bvs, y_os, y_on, y_t, ne_eq, not_true_eq_false, not_false_eq_true, pk_mul, nI_add, if_true, A1.2.2.2.1]
    refine qW_k (sX2_weight hR (h.c (by decide)) (by omega) hg (by omega)) (fun r N1 g2 => ?_)
    obtain ⟨rfl, k3⟩ := g2
    have A2 : AF N1 E c0 c1 := A1.sight (t := 0) (by decide) (k3.wd (fun x j z => Or.inr (by omega))) (fun w hw => k3.a (fun z => by omega))
    have m2 : MA N1 a := m1.kept k3 (fun z => by omega) (fun z => by omega)
    have f := fin _ A2 m2 (k2.tr (k3.wd (fun x j z => by unfold SA; omega))) hlt rfl
    by_cases c : w_v (v_c E 1) (v_g E 0 0 0 0) kind < 15
    · simp (disch := omega) only [y_lit, y_lt_T, y_lt_F, y_le_T, y_le_F, y_eq_T, y_eq_F, y_in_T, y_cl, ↓reduceIte, y_bs, y_bvs, y_os, y_on, y_t, ne_eq, not_true_eq_false, not_false_eq_true, pk_mul, nI_add]
      exact f
    · have e15 : w_v (v_c E 1) (v_g E 0 0 0 0) kind = 15 := by omega
      rw [e15] at f ⊢
      simp (disch := omega) only [y_lit, y_lt_T, y_lt_F, y_le_T, y_le_F, y_eq_T, y_eq_F, y_in_T, y_cl, ↓reduceIte, y_bs, y_bvs, y_os, y_on, y_t, ne_eq, not_true_eq_false, not_false_eq_true, pk_mul, nI_add]
      exact f
end AFTERD
