/-! the class's allows, after, open -/
section AFTER
variable {nc c0 c1 a : Nat} {M : QM} {E : EV}
theorem sX0_allows (h : v_ok nc E) (A : AF M E c0 c1) {s : ST} (hs : s_ok s) {m : Nat} (hm : m < 11) : fX0_allows M (s_p s) (nI m) = some (nI (if v_can E s m then 1 else 0), M) := by
  have ht : s_t s < 2 := hs.2.2.2.1
  have hk3 : s_k s < 3 := hs.2.2.2.2.1
  have he : s_e s < 5 := hs.2.2.2.2.2.1
  have e1 : nI 1 - nI (s_t s) = nI (1 - s_t s) := pk_sub (by omega)
  have o1 := s_ol hs (s_t s)
  have o2 := s_ol hs (1 - s_t s)
  have hc := c_e_lt A (s_t s)
  have ha : q_i M (10 + c_e c0 c1 (s_t s)) 9 = nI (c_a (v_c E (s_t s))) := (A.2.2.2.2.1 _ ht).2.1
  have key : ∀ b : Bool, v_can E s m = b → fX0_allows M (s_p s) (nI m) = some (nI (if b then 1 else 0), M) → fX0_allows M (s_p s) (nI m) = some (nI (if v_can E s m then 1 else 0), M) := fun b h g => by rw [h]; exact g
  have nope : ¬ (s_e s = 0 ∧ m < 11 ∧ ((s_k s = 0 ∧ (m < 4 ∨ m = 10 ∨ (m < 8 ∧ 0 < s_o s (1 - s_t s)) ∨ (m = 8 ∧ c_a (v_c E (s_t s)) ≤ s_o s (s_t s)))) ∨ (s_k s ≠ 0 ∧ (m = 8 ∨ m = 9)))) → fX0_allows M (s_p s) (nI m) = some (nI 0, M) → fX0_allows M (s_p s) (nI m) = some (nI (if v_can E s m then 1 else 0), M) := fun q g => key false (decide_eq_false q) (by simpa using g)
  have yes : (s_e s = 0 ∧ m < 11 ∧ ((s_k s = 0 ∧ (m < 4 ∨ m = 10 ∨ (m < 8 ∧ 0 < s_o s (1 - s_t s)) ∨ (m = 8 ∧ c_a (v_c E (s_t s)) ≤ s_o s (s_t s)))) ∨ (s_k s ≠ 0 ∧ (m = 8 ∨ m = 9)))) → fX0_allows M (s_p s) (nI m) = some (nI 1, M) → fX0_allows M (s_p s) (nI m) = some (nI (if v_can E s m then 1 else 0), M) := fun q g => key true (decide_eq_true q) (by simpa using g)
  have hask : c_a (v_c E (s_t s)) < 16 := (h.c ht).1
  by_cases h0 : s_e s = 0
  · by_cases hk : s_k s = 0
    · by_cases m4 : m < 4
      · refine yes ⟨h0, hm, Or.inl ⟨hk, Or.inl m4⟩⟩ ?_
        unfold fX0_allows
        simp (disch := omega) only [y_lit, y_lt_T, y_lt_F, y_le_T, y_le_F, y_eq_T, y_eq_F, y_in_T, y_cl, ↓reduceIte, y_bs, y_bvs, y_os, y_on, y_t, ne_eq, not_true_eq_false, not_false_eq_true, pk_mul, nI_add, sX7_ending M hs, sX7_asked M hs, sX7_turn M hs]
      · by_cases m8 : m < 8
        · by_cases ho : 0 < s_o s (1 - s_t s)
          · refine yes ⟨h0, hm, Or.inl ⟨hk, Or.inr (Or.inr (Or.inl ⟨m8, ho⟩))⟩⟩ ?_
            unfold fX0_allows
            simp (disch := omega) only [y_lit, y_lt_T, y_lt_F, y_le_T, y_le_F, y_eq_T, y_eq_F, y_in_T, y_cl, ↓reduceIte, y_bs, y_bvs, y_os, y_on, y_t, ne_eq, not_true_eq_false, not_false_eq_true, pk_mul, nI_add, sX7_ending M hs, sX7_asked M hs, sX7_turn M hs, e1, sX7_owed M hs (show 1 - s_t s < 2 by omega)]
          · refine nope (fun z => by omega) ?_
            unfold fX0_allows
            simp (disch := omega) only [y_lit, y_lt_T, y_lt_F, y_le_T, y_le_F, y_eq_T, y_eq_F, y_in_T, y_cl, ↓reduceIte, y_bs, y_bvs, y_os, y_on, y_t, ne_eq, not_true_eq_false, not_false_eq_true, pk_mul, nI_add, sX7_ending M hs, sX7_asked M hs, sX7_turn M hs, e1, sX7_owed M hs (show 1 - s_t s < 2 by omega)]
        · by_cases e8 : m = 8
          · have hf : fX0_allows M (s_p s) (nI m) = if nI (s_o s (s_t s)) < nI (c_a (v_c E (s_t s))) then some (nI 0, M) else some (nI 1, M) := by
              unfold fX0_allows
              simp (disch := omega) only [y_lit, y_lt_T, y_lt_F, y_le_T, y_le_F, y_eq_T, y_eq_F, y_in_T, y_cl, ↓reduceIte, y_bs, y_bvs, y_os, y_on, y_t, ne_eq, not_true_eq_false, not_false_eq_true, pk_mul, nI_add, sX7_ending M hs, sX7_asked M hs, sX7_turn M hs, sX7_owed M hs ht, A.code ht, kls_c hc, ha]
            by_cases c : c_a (v_c E (s_t s)) ≤ s_o s (s_t s)
            · refine yes ⟨h0, hm, Or.inl ⟨hk, Or.inr (Or.inr (Or.inr ⟨e8, c⟩))⟩⟩ ?_
              rw [hf, if_neg (nI_nlt c (by omega))]
            · refine nope (fun z => by omega) ?_
              rw [hf, if_pos (nI_lt (by omega) (by omega))]
          · by_cases e10 : m = 10
            · refine yes ⟨h0, hm, Or.inl ⟨hk, Or.inr (Or.inl e10)⟩⟩ ?_
              unfold fX0_allows
              simp (disch := omega) only [y_lit, y_lt_T, y_lt_F, y_le_T, y_le_F, y_eq_T, y_eq_F, y_in_T, y_cl, ↓reduceIte, y_bs, y_bvs, y_os, y_on, y_t, ne_eq, not_true_eq_false, not_false_eq_true, pk_mul, nI_add, sX7_ending M hs, sX7_asked M hs, sX7_turn M hs]
            · refine nope (fun z => by omega) ?_
              unfold fX0_allows
              simp (disch := omega) only [y_lit, y_lt_T, y_lt_F, y_le_T, y_le_F, y_eq_T, y_eq_F, y_in_T, y_cl, ↓reduceIte, y_bs, y_bvs, y_os, y_on, y_t, ne_eq, not_true_eq_false, not_false_eq_true, pk_mul, nI_add, sX7_ending M hs, sX7_asked M hs, sX7_turn M hs]
    · by_cases e8 : m = 8
      · refine yes ⟨h0, hm, Or.inr ⟨hk, Or.inl e8⟩⟩ ?_
        unfold fX0_allows
        simp (disch := omega) only [y_lit, y_lt_T, y_lt_F, y_le_T, y_le_F, y_eq_T, y_eq_F, y_in_T, y_cl, ↓reduceIte, y_bs, y_bvs, y_os, y_on, y_t, ne_eq, not_true_eq_false, not_false_eq_true, pk_mul, nI_add, sX7_ending M hs, sX7_asked M hs]
      · by_cases e9 : m = 9
        · refine yes ⟨h0, hm, Or.inr ⟨hk, Or.inr e9⟩⟩ ?_
          unfold fX0_allows
          simp (disch := omega) only [y_lit, y_lt_T, y_lt_F, y_le_T, y_le_F, y_eq_T, y_eq_F, y_in_T, y_cl, ↓reduceIte, y_bs, y_bvs, y_os, y_on, y_t, ne_eq, not_true_eq_false, not_false_eq_true, pk_mul, nI_add, sX7_ending M hs, sX7_asked M hs]
        · refine nope (fun z => by omega) ?_
          unfold fX0_allows
          simp (disch := omega) only [y_lit, y_lt_T, y_lt_F, y_le_T, y_le_F, y_eq_T, y_eq_F, y_in_T, y_cl, ↓reduceIte, y_bs, y_bvs, y_os, y_on, y_t, ne_eq, not_true_eq_false, not_false_eq_true, pk_mul, nI_add, sX7_ending M hs, sX7_asked M hs]
  · refine nope (fun z => h0 z.1) ?_
    unfold fX0_allows
    simp (disch := omega) only [y_lit, y_lt_T, y_lt_F, y_le_T, y_le_F, y_eq_T, y_eq_F, y_in_T, y_cl, ↓reduceIte, y_bs, y_bvs, y_os, y_on, y_t, ne_eq, not_true_eq_false, not_false_eq_true, pk_mul, nI_add, sX7_ending M hs]
theorem sX0_allowsO {s : ST} (hs : s_ok s) {x : Int32} (hx : q_out x 11) : fX0_allows M (s_p s) x = some (nI 0, M) := by
  have he : s_e s < 5 := hs.2.2.2.2.2.1
  unfold fX0_allows
  rw [sX7_ending M hs, q_b_s]
  by_cases h0 : nI (s_e s) ≠ 0
  · rw [if_pos h0]; rfl
  · rw [if_neg h0]
    by_cases c : x < 0
    · rw [if_pos c]; rfl
    · rw [if_neg c, if_neg (show ¬ x < (11 : Int32) from Int32.not_lt.mpr (hx.resolve_left c))]; rfl
theorem sX0_changed (M : QM) {o m w : Nat} (ho : o < 16) (hm : m < 8) (hw : w < 16) : fX0_changed M (nI o) (nI m) (nI w) = some (nI (if m < 4 then min 15 (o + w) else o - w), M) := by
  unfold fX0_changed
  by_cases m4 : m < 4
  · simp (disch := omega) only [y_lit, y_lt_T, y_lt_F, y_le_T, y_le_F, y_eq_T, y_eq_F, y_in_T, y_cl, ↓reduceIte, y_bs, y_bvs, y_os, y_on, y_t, ne_eq, not_true_eq_false, not_false_eq_true, pk_mul, nI_add]
    rw [if_pos m4]
    by_cases c : o + w < 15
    · rw [if_pos (nI_lt c (by omega)), Nat.min_eq_right (by omega)]
    · rw [if_neg (nI_nlt (by omega) (by omega)), Nat.min_eq_left (by omega)]
  · simp (disch := omega) only [y_lit, y_lt_T, y_lt_F, y_le_T, y_le_F, y_eq_T, y_eq_F, y_in_T, y_cl, ↓reduceIte, y_bs, y_bvs, y_os, y_on, y_t, ne_eq, not_true_eq_false, not_false_eq_true, pk_mul, nI_add]
    rw [if_neg m4]
    by_cases c : w < o
    · rw [pk_sub (by omega), if_pos (nI_lt (by omega) (by omega))]
    · rw [show o - w = 0 by omega]
      by_cases e : o = w
      · rw [e, pk_sub (Nat.le_refl _), Nat.sub_self, if_neg (by decide)]
      · rw [if_neg (fun z => by
          have h1 := pk_sneg (a := o) (b := w) (by omega) (by omega)
          rw [Int32.lt_iff_toInt_lt] at h1 z
          have h2 : (0 : Int32).toInt = 0 := by decide
          have h3 : (nI 0).toInt = 0 := by decide
          omega)]
theorem sX0_lessOf (A : AF M E c0 c1) (h : v_ok nc E) {x y : Nat} (hx : x < 16) (hy : y < 16) : fX0_lessOf M (nI x) (nI y) = some (nI (v_L E x y), M) := by
  have m0 : q_i M (10 + c0) 11 = nI (c_m (v_c E 0)) := (A.2.2.2.2.1 0 (by decide)).2.2.2.1
  have m1 : q_i M (10 + c1) 11 = nI (c_m (v_c E 1)) := (A.2.2.2.2.1 1 (by decide)).2.2.2.1
  have k0 : c_m (v_c E 0) < 16 := (h.c (k := 0) (by decide)).2.2.2.1
  have k1 : c_m (v_c E 1) < 16 := (h.c (k := 1) (by decide)).2.2.2.1
  unfold fX0_lessOf v_L fX0_lessOf_b16 fX0_lessOf_b32
  rw [A.2.2.1, A.2.2.2.1, m0, m1]
  by_cases a0 : c_m (v_c E 0) ≤ x <;> by_cases a1 : c_m (v_c E 1) ≤ y <;> simp (disch := omega) only [y_lit, y_lt_T, y_lt_F, y_le_T, y_le_F, y_eq_T, y_eq_F, y_in_T, y_cl, ↓reduceIte, y_bs, y_bvs, y_os, y_on, y_t, ne_eq, not_true_eq_false, not_false_eq_true, pk_mul, nI_add, a0, a1, if_true, if_false]
theorem sX0_after_b113 (A : AF M E c0 c1) (h : v_ok nc E) {s : ST} (hs : v_w E s) (h0 : s_e s = 0) {m mine o : Nat} (hm : m < 11) (h1 : mine < 16) (h2 : o < 16) :
    fX0_after_b113 M (s_p s) (nI m) (nI (s_t s)) (nI (1 - s_t s)) (nI mine) (nI o) = some (s_p (v_n E s (if s_t s = 0 then mine else o) (if s_t s = 0 then o else mine) (if m = 8 then s_t s + 1 else 0)), M) := by
  have ht : s_t s < 2 := hs.1.2.2.2.1
  have hl : s_l s < 16 := hs.1.2.2.1
  obtain ⟨w1, w2, w3, w4, w5⟩ := hs.2 h0
  have hh := v_h_le h
  have last : ∀ x y k : Nat, x < 16 → y < 16 → k < 3 → ¬ (x = 0 ∧ y = 0 ∧ k = 0) → fX0_after_b194 M (nI (1 - s_t s)) (nI x) (nI y) (nI k) (nI (s_l s)) = some (s_p (v_n E s x y k), M) := fun x y k hx hy hk hn => by
    have e1 : nI (s_l s) - nI 1 = nI (s_l s - 1) := pk_sub (by omega)
    have e2 : (s_l s - 1) % 16 = s_l s - 1 := by omega
    unfold fX0_after_b194 v_n
    rw [if_neg hn]
    by_cases c : s_l s ≤ 1
    · have ok1 : s_ok (x, y, s_l s - 1, 1 - s_t s, k, 0, 0) := s_okM hx hy (by omega) (by omega) hk (by decide) (by decide)
      simp (disch := omega) only [y_lit, y_lt_T, y_lt_F, y_le_T, y_le_F, y_eq_T, y_eq_F, y_in_T, y_cl, ↓reduceIte, y_bs, y_bvs, y_os, y_on, y_t, ne_eq, not_true_eq_false, not_false_eq_true, pk_mul, nI_add, e1, y_and15, e2, sX7_of M hx hy (show s_l s - 1 < 16 by omega) (show 1 - s_t s < 2 by omega) hk, sX0_lessOf A h hx hy, sX7_ended M ok1 rfl rfl (show 4 < 5 by decide) (v_L_lt E x y), c]
    · simp (disch := omega) only [y_lit, y_lt_T, y_lt_F, y_le_T, y_le_F, y_eq_T, y_eq_F, y_in_T, y_cl, ↓reduceIte, y_bs, y_bvs, y_os, y_on, y_t, ne_eq, not_true_eq_false, not_false_eq_true, pk_mul, nI_add, e1, y_and15, e2, sX7_of M hx hy (show s_l s - 1 < 16 by omega) (show 1 - s_t s < 2 by omega) hk, c]
  have mid : ∀ k : Nat, k < 3 → fX0_after_b155 M (s_p s) (nI (1 - s_t s)) (nI mine) (nI o) (nI (if s_t s = 0 then mine else o)) (nI (if s_t s = 0 then o else mine)) (nI k) = some (s_p (v_n E s (if s_t s = 0 then mine else o) (if s_t s = 0 then o else mine) k), M) := fun k hk => by
    have l := last (if s_t s = 0 then mine else o) (if s_t s = 0 then o else mine) k (by split <;> omega) (by split <;> omega) hk
    unfold fX0_after_b155
    rw [sX7_left M hs.1, q_b_s]
    by_cases c1 : mine = 0
    · by_cases c2 : o = 0
      · by_cases c3 : k = 0
        · have ok1 : s_ok (0, 0, s_l s, 1 - s_t s, 0, 0, 0) := s_okM (by decide) (by decide) (by omega) (by omega) (by decide) (by decide) (by decide)
          subst c1
          subst c2
          subst c3
          simp (disch := omega) only [y_lit, y_lt_T, y_lt_F, y_le_T, y_le_F, y_eq_T, y_eq_F, y_in_T, y_cl, ↓reduceIte, y_bs, y_bvs, y_os, y_on, y_t, ne_eq, not_true_eq_false, not_false_eq_true, pk_mul, nI_add, sX7_of M (show 0 < 16 by decide) (show 0 < 16 by decide) hl (show 1 - s_t s < 2 by omega) (show 0 < 3 by decide), sX7_ended M ok1 rfl rfl (show 1 < 5 by decide) (show 0 < 4 by decide), ite_self, v_n, and_self, if_true]
        · simp (disch := omega) only [y_lit, y_lt_T, y_lt_F, y_le_T, y_le_F, y_eq_T, y_eq_F, y_in_T, y_cl, ↓reduceIte, y_bs, y_bvs, y_os, y_on, y_t, ne_eq, not_true_eq_false, not_false_eq_true, pk_mul, nI_add]
          exact l (fun z => c3 z.2.2)
      · simp (disch := omega) only [y_lit, y_lt_T, y_lt_F, y_le_T, y_le_F, y_eq_T, y_eq_F, y_in_T, y_cl, ↓reduceIte, y_bs, y_bvs, y_os, y_on, y_t, ne_eq, not_true_eq_false, not_false_eq_true, pk_mul, nI_add]
        refine l (fun z => ?_)
        split at z <;> omega
    · simp (disch := omega) only [y_lit, y_lt_T, y_lt_F, y_le_T, y_le_F, y_eq_T, y_eq_F, y_in_T, y_cl, ↓reduceIte, y_bs, y_bvs, y_os, y_on, y_t, ne_eq, not_true_eq_false, not_false_eq_true, pk_mul, nI_add]
      refine l (fun z => ?_)
      split at z <;> omega
  unfold fX0_after_b113 fX0_after_b125 fX0_after_b139
  by_cases et : s_t s = 0
  · by_cases e8 : m = 8
    · have := mid 1 (by decide)
      rw [et] at this ⊢
      simp (disch := omega) only [y_lit, y_lt_T, y_lt_F, y_le_T, y_le_F, y_eq_T, y_eq_F, y_in_T, y_cl, ↓reduceIte, y_bs, y_bvs, y_os, y_on, y_t, ne_eq, not_true_eq_false, not_false_eq_true, pk_mul, nI_add, e8, if_true] at this ⊢
      exact this
    · have := mid 0 (by decide)
      rw [et] at this ⊢
      simp (disch := omega) only [y_lit, y_lt_T, y_lt_F, y_le_T, y_le_F, y_eq_T, y_eq_F, y_in_T, y_cl, ↓reduceIte, y_bs, y_bvs, y_os, y_on, y_t, ne_eq, not_true_eq_false, not_false_eq_true, pk_mul, nI_add, e8, if_true, if_false] at this ⊢
      exact this
  · have e1 : s_t s = 1 := by omega
    by_cases e8 : m = 8
    · have := mid 2 (by decide)
      rw [e1] at this ⊢
      simp (disch := omega) only [y_lit, y_lt_T, y_lt_F, y_le_T, y_le_F, y_eq_T, y_eq_F, y_in_T, y_cl, ↓reduceIte, y_bs, y_bvs, y_os, y_on, y_t, ne_eq, not_true_eq_false, not_false_eq_true, pk_mul, nI_add, e8, if_true, if_false, Nat.reduceEqDiff] at this ⊢
      exact this
    · have := mid 0 (by decide)
      rw [e1] at this ⊢
      simp (disch := omega) only [y_lit, y_lt_T, y_lt_F, y_le_T, y_le_F, y_eq_T, y_eq_F, y_in_T, y_cl, ↓reduceIte, y_bs, y_bvs, y_os, y_on, y_t, ne_eq, not_true_eq_false, not_false_eq_true, pk_mul, nI_add, e8, if_true, if_false, Nat.reduceEqDiff] at this ⊢
      exact this
end AFTER
