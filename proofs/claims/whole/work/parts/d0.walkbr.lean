/-! the WALK: the class's brief -/
section WALKF
variable {nc w n : Nat} {E : EV} {M : QM} {s0 : ST} {σ : Nat → ST} {c g T F : Nat → Nat}
theorem sX10_fewestTo_b33 (wm : WM M E w n σ c g T F) (hn : n ≤ 4096) {x : Int32} {P : Nat → Nat} (P0 : P 0 = 0) : ∀ (k f y t : Nat), k < f → t + k ≤ 8 → (∀ j, j < k → 0 < P (j + 1) ∧ P (j + 1) < n ∧ g (P (j + 1)) = 16 * P j + v_M E x (v_q E x s0 j)) → (∀ j, v_M E x (v_q E x s0 j) < 16) → (∀ j, j ≤ k → P j < n) →
    fX10_fewestTo_b33 f M (nI y) (nI (P k)) (nI t) = some (nI (y + k), M) := by
  intro k
  induction k with
  | zero =>
    intro f y t hf ht hP _ _
    obtain ⟨f, rfl⟩ : ∃ p, f = p + 1 := ⟨f - 1, by omega⟩
    rw [P0, fX10_fewestTo_b33]
    by_cases q : t = 8
    · simp (disch := omega) only [y_lit, y_lt_T, y_lt_F, y_le_T, y_le_F, y_eq_T, y_eq_F, y_in_T, y_cl, ↓reduceIte, y_bs, y_bvs, y_os, y_on, y_t, ne_eq, not_true_eq_false, not_false_eq_true, pk_mul, nI_add, Nat.add_zero]
    · simp (disch := omega) only [y_lit, y_lt_T, y_lt_F, y_le_T, y_le_F, y_eq_T, y_eq_F, y_in_T, y_cl, ↓reduceIte, y_bs, y_bvs, y_os, y_on, y_t, ne_eq, not_true_eq_false, not_false_eq_true, pk_mul, nI_add, Nat.add_zero]
  | succ k ih =>
    intro f y t hf ht hP hM hN
    obtain ⟨f, rfl⟩ : ∃ p, f = p + 1 := ⟨f - 1, by omega⟩
    obtain ⟨p1, p2, p3⟩ := hP k (by omega)
    have eg := (wm.2.2.1 _ p2).2.2
    have hM2 := hM k
    have hpk := hN k (by omega)
    have nx := ih f (y + 1) (t + 1) (by omega) (by omega) (fun j hj => hP j (by omega)) hM (fun j hj => hN j (by omega))
    have ed : (16 * P k + v_M E x (v_q E x s0 k)) / 16 = P k := by omega
    rw [p3] at eg
    rw [fX10_fewestTo_b33]
    simp (disch := omega) only [y_lit, y_lt_T, y_lt_F, y_le_T, y_le_F, y_eq_T, y_eq_F, y_in_T, y_cl, ↓reduceIte, y_bs, y_bvs, y_os, y_on, y_t, ne_eq, not_true_eq_false, not_false_eq_true, pk_mul, nI_add, eg, y_shr4, ed]
    rw [nx, show y + 1 + k = y + (k + 1) by omega]
theorem sX10_moveTo_b22 (wm : WM M E w n σ c g T F) (hn : n ≤ 4096) {x : Int32} {P : Nat → Nat} {r : Nat} (hr : r < 8) : ∀ (d f t L : Nat), t + d = r → d < f → d ≤ L → (∀ j, j < L → 0 < P (j + 1) ∧ P (j + 1) < n ∧ g (P (j + 1)) = 16 * P j + v_M E x (v_q E x s0 j)) → (∀ j, v_M E x (v_q E x s0 j) < 16) → (∀ j, j ≤ L → P j < n) →
    fX10_moveTo_b22 f M (nI r) (nI (16 * P L + v_M E x (v_q E x s0 L))) (nI t) = some (nI (v_M E x (v_q E x s0 (L - d))), M) := by
  intro d
  induction d with
  | zero =>
    intro f t L ht hf hd hP hM hN
    obtain ⟨f, rfl⟩ : ∃ p, f = p + 1 := ⟨f - 1, by omega⟩
    have h1 := hM L
    have h2 := hN L (Nat.le_refl _)
    have e : (16 * P L + v_M E x (v_q E x s0 L)) % 16 = v_M E x (v_q E x s0 L) := by omega
    rw [fX10_moveTo_b22]
    simp (disch := omega) only [y_lit, y_lt_T, y_lt_F, y_le_T, y_le_F, y_eq_T, y_eq_F, y_in_T, y_cl, ↓reduceIte, y_bs, y_bvs, y_os, y_on, y_t, ne_eq, not_true_eq_false, not_false_eq_true, pk_mul, nI_add, fX10_moveTo_b71, y_and15, e, Nat.sub_zero]
  | succ d ih =>
    intro f t L ht hf hd hP hM hN
    obtain ⟨f, rfl⟩ : ∃ p, f = p + 1 := ⟨f - 1, by omega⟩
    obtain ⟨L, rfl⟩ : ∃ p, L = p + 1 := ⟨L - 1, by omega⟩
    have h1 := hM (L + 1)
    have h2 := hN (L + 1) (Nat.le_refl _)
    have e : (16 * P (L + 1) + v_M E x (v_q E x s0 (L + 1))) / 16 = P (L + 1) := by omega
    obtain ⟨p1, p2, p3⟩ := hP L (by omega)
    have eg := (wm.2.2.1 _ p2).2.2
    rw [p3] at eg
    have nx := ih f (t + 1) L (by omega) (by omega) (by omega) (fun j hj => hP j (by omega)) hM (fun j hj => hN j (by omega))
    rw [fX10_moveTo_b22]
    simp (disch := omega) only [y_lit, y_lt_T, y_lt_F, y_le_T, y_le_F, y_eq_T, y_eq_F, y_in_T, y_cl, ↓reduceIte, y_bs, y_bvs, y_os, y_on, y_t, ne_eq, not_true_eq_false, not_false_eq_true, pk_mul, nI_add, y_shr4, e, fX10_moveTo_b64, eg]
    rw [nx, show L + 1 - (d + 1) = L - d by omega]
theorem lst_le (p : Nat → Bool) : ∀ n, lst p n ≤ n := by
  intro n
  induction n generalizing p with
  | zero => exact Nat.le_refl _
  | succ n ih =>
    unfold lst
    split
    · exact Nat.zero_le _
    · exact Nat.succ_le_succ (ih _)
theorem v_M_16 (E : EV) (x : Int32) (s : ST) : v_M E x s < 16 := by
  have := lst_le (v_P E x s) 11
  unfold v_M
  omega
/-- fewest moves -/
theorem sX10_fewestTo (hv : v_ok nc E) (hs : v_w E s0) (h : WF M E w s0) {o : Nat} (ho : o < 20) (hb : v_b E (nI o) s0 < 99) : fX10_fewestTo M (nI o) = some (nI (v_b E (nI o) s0), M) := by
  obtain ⟨n, σ, c, g, T, F, wm, hn, hh⟩ := h
  rcases hh with ⟨h0, h8, hn0, wi⟩ | ⟨h0, h8, hT⟩
  · have b8 := v_b_8 hv (nI o) hs
    have bp := v_b_pos (E := E) (x := nI o) h0 (hs.2 h0).2.1
    obtain ⟨P, P0, w1, hP⟩ := wi.path hv (by omega) hb (v_b E (nI o) s0 - 1) (by omega)
    have hF := wi.goal hv (by omega) ho hb (k := v_b E (nI o) s0 - 1) (by omega) w1
    have hM := v_M_16 E (nI o) (v_q E (nI o) s0 (v_b E (nI o) s0 - 1))
    have ef := (wm.2.2.2.1 o ho).2
    have hPn : ∀ j, j ≤ v_b E (nI o) s0 - 1 → P j < n := fun j hj => by
      by_cases q : j = v_b E (nI o) s0 - 1
      · rw [q]
        exact w1.1
      · cases j with
        | zero => rw [P0]; exact hn0
        | succ j => exact (hP j (by omega)).2.1
    have hp := hPn _ (Nat.le_refl _)
    have ed : F o / 16 = P (v_b E (nI o) s0 - 1) := by omega
    have nx := sX10_fewestTo_b33 (x := nI o) (s0 := s0) wm hn P0 (v_b E (nI o) s0 - 1) q_F 1 0 (q_Fn (by omega)) (by omega) hP (fun j => v_M_16 _ _ _) hPn
    unfold fX10_fewestTo
    simp (disch := omega) only [y_lit, y_lt_T, y_lt_F, y_le_T, y_le_F, y_eq_T, y_eq_F, y_in_T, y_cl, ↓reduceIte, y_bs, y_bvs, y_os, y_on, y_t, ne_eq, not_true_eq_false, not_false_eq_true, pk_mul, nI_add, h8, ef, y_shr4, ed]
    rw [nx, show 1 + (v_b E (nI o) s0 - 1) = v_b E (nI o) s0 by omega]
  · rw [v_b_e h0] at hb ⊢
    have e : nI (s_u s0) = nI o := by
      by_cases q : nI (s_u s0) = nI o
      · exact q
      · rw [if_neg q] at hb
        omega
    rw [if_pos e]
    unfold fX10_fewestTo
    simp (disch := omega) only [y_lit, y_lt_T, y_lt_F, y_le_T, y_le_F, y_eq_T, y_eq_F, y_in_T, y_cl, ↓reduceIte, y_bs, y_bvs, y_os, y_on, y_t, ne_eq, not_true_eq_false, not_false_eq_true, pk_mul, nI_add, h8]
/-- the brief's move -/
theorem sX10_moveTo (hv : v_ok nc E) (hs : v_w E s0) (h : WF M E w s0) {o y : Nat} (ho : o < 20) (hb : v_b E (nI o) s0 < 99) (hy : y < v_b E (nI o) s0) : fX10_moveTo M (nI o) (nI (v_b E (nI o) s0 - 1 - y)) = some (nI (v_M E (nI o) (v_q E (nI o) s0 y)), M) := by
  obtain ⟨n, σ, c, g, T, F, wm, hn, hh⟩ := h
  rcases hh with ⟨h0, h8, hn0, wi⟩ | ⟨h0, h8, hT⟩
  · have b8 := v_b_8 hv (nI o) hs
    obtain ⟨P, P0, w1, hP⟩ := wi.path hv (by omega) hb (v_b E (nI o) s0 - 1) (by omega)
    have hF := wi.goal hv (by omega) ho hb (k := v_b E (nI o) s0 - 1) (by omega) w1
    have ef := (wm.2.2.2.1 o ho).2
    rw [hF] at ef
    have hPn : ∀ j, j ≤ v_b E (nI o) s0 - 1 → P j < n := fun j hj => by
      by_cases q : j = v_b E (nI o) s0 - 1
      · rw [q]
        exact w1.1
      · cases j with
        | zero => rw [P0]; exact hn0
        | succ j => exact (hP j (by omega)).2.1
    have nx := sX10_moveTo_b22 (x := nI o) (s0 := s0) (P := P) (r := v_b E (nI o) s0 - 1 - y) wm hn (by omega) (v_b E (nI o) s0 - 1 - y) q_F 0 (v_b E (nI o) s0 - 1) (by omega) (q_Fn (by omega)) (by omega) hP (fun j => v_M_16 _ _ _) hPn
    unfold fX10_moveTo
    simp (disch := omega) only [y_lit, y_lt_T, y_lt_F, y_le_T, y_le_F, y_eq_T, y_eq_F, y_in_T, y_cl, ↓reduceIte, y_bs, y_bvs, y_os, y_on, y_t, ne_eq, not_true_eq_false, not_false_eq_true, pk_mul, nI_add, ef]
    rw [nx, show v_b E (nI o) s0 - 1 - (v_b E (nI o) s0 - 1 - y) = y by omega]
  · rw [v_b_e h0] at hy hb
    by_cases q : nI (s_u s0) = nI o
    · rw [if_pos q] at hy
      omega
    · rw [if_neg q] at hb
      omega
end WALKF
