/-! the WALK: the class's rows of it -/
theorem y_cmp0 : lg_cmp (lN 0) (lN 0) = nI 0 := by
  unfold lg_cmp
  rw [if_neg (by exact Int64.lt_irrefl), if_pos rfl]
  rfl
theorem y_cmp1 {T : Nat} (h : 0 < T) (h2 : T < 2 ^ 31) : lg_cmp (lN T) (lN 0) = nI 1 := by
  unfold lg_cmp
  have g : lN T > lN 0 := by
    show lN 0 < lN T
    rw [Int64.lt_iff_toInt_lt, lN_toInt h2, lN_toInt (by decide)]
    omega
  rw [if_pos g]
  rfl
theorem y_shr12 {n : Nat} (h : n < 2147483648) : nI n >>> (nI 12 &&& nI 31) = nI (n / 4096) := pk_shrN h _ 12 (by decide)
theorem y_shl12 {n : Nat} (h : n < 524288) : nI n <<< (nI 12 &&& nI 31) = nI (n * 2 ^ 12) := pk_shlN _ 12 (by decide) (by omega)
theorem y_or12 {a b : Nat} (h : a < 4096) : nI (b * 2 ^ 12) ||| nI a = nI (a + b * 2 ^ 12) := by
  rw [Int32.or_comm]
  exact nI_orS (k := 12) (by omega)
theorem y_and4095 {n : Nat} (h : n < 4294967296) : nI n &&& nI 4095 = nI (n % 4096) := pk_andN h 12 (by decide)
theorem y_shl4 {n : Nat} (h : n < 134217728) : nI n <<< (nI 4 &&& nI 31) = nI (n * 2 ^ 4) := pk_shlN _ 4 (by decide) (by omega)
theorem y_or4 {a b : Nat} (h : a < 16) : nI (b * 2 ^ 4) ||| nI a = nI (a + b * 2 ^ 4) := by
  rw [Int32.or_comm]
  exact nI_orS (k := 4) (by omega)
/-- the waiting list -/
def WL1 (M : QM) (n : Nat) (σ : Nat → ST) (c g : Nat → Nat) : Prop := ∀ j, j < n → q_a M 6 0 j = s_p (σ j) ∧ q_l M 6 1 j = lN (c j) ∧ q_a M 6 2 j = nI (g j)
def WL2 (M : QM) (T F : Nat → Nat) : Prop := ∀ o, o < 20 → q_l M 6 4 o = lN (T o) ∧ q_a M 6 5 o = nI (F o)
def WL3 (M : QM) (w n : Nat) (σ : Nat → ST) : Prop := (∀ p, p < 4096 → ∃ b, b < 4096 * (w + 1) ∧ q_a M 6 3 p = nI b ∧ (4096 * w ≤ b → b - 4096 * w < n ∧ s_s (σ (b - 4096 * w)) = p)) ∧ ∀ j, j < n → q_a M 6 3 (s_s (σ j)) = nI (4096 * w + j)
def WL4 (E : EV) (n : Nat) (σ : Nat → ST) : Prop := ∀ j, j < n → v_w E (σ j) ∧ s_e (σ j) = 0
def WM (M : QM) (E : EV) (w n : Nat) (σ : Nat → ST) (c g T F : Nat → Nat) : Prop := q_i M 6 7 = nI w ∧ q_i M 6 6 = nI n ∧ WL1 M n σ c g ∧ WL2 M T F ∧ WL3 M w n σ ∧ WL4 E n σ
def S6 (a j : Nat) : Prop := a = 6 ∧ j ≠ 8
section WALKR
variable {nc n w : Nat} {E : EV} {M : QM} {σ : Nat → ST} {c g T F : Nat → Nat}
theorem WM.kept (h : WM M E w n σ c g T F) {N : QM} {S : Nat → Nat → Prop} (k : kp S M N) (hS : ∀ j, ¬ S 6 j) : WM N E w n σ c g T F := by
  obtain ⟨h1, h2, h3, h4, h5, h6⟩ := h
  refine ⟨(k.i (hS _)).trans h1, (k.i (hS _)).trans h2, fun j a => ?_, fun o a => ?_, ⟨fun p a => ?_, fun j a => ?_⟩, h6⟩
  · rw [k.a (hS _), k.l (hS _), k.a (hS _)]
    exact h3 j a
  · rw [k.l (hS _), k.a (hS _)]
    exact h4 o a
  · rw [k.a (hS _)]
    exact h5.1 p a
  · rw [k.a (hS _)]
    exact h5.2 j a
/-- a new place fits -/
theorem WM.fits (hv : v_ok nc E) (h : WM M E w n σ c g T F) (hw : w < 100000) {s : ST} (hs : v_w E s) (h0 : s_e s = 0) (hn : ∀ k, k < n → σ k ≠ s) (hn2 : n ≤ 4096) : n < 4096 := by
  obtain ⟨h1, h2, h3, h4, h5, h6⟩ := h
  refine pigeon 4096 (n + 1) (fun j => if j < n then s_s (σ j) else s_s s) (fun i hi => ?_) (fun i j hi hj => ?_)
  · by_cases q : i < n
    · simp only [q, if_true]
      exact s_sl (h6 i q).1.1
    · simp only [q, if_false]
      exact s_sl hs.1
  · by_cases qi : i < n
    · by_cases qj : j < n
      · simp only [qi, qj, if_true]
        intro e
        have a := h5.2 i qi
        rw [e, h5.2 j qj] at a
        have := (nI_eq (by omega) (by omega)).mp a
        omega
      · simp only [qi, qj, if_true, if_false]
        intro e
        exact absurd (s_s_inj hv (h6 i qi).1 hs (h6 i qi).2 h0 e) (hn i qi)
    · by_cases qj : j < n
      · simp only [qi, qj, if_true, if_false]
        intro e
        exact absurd (s_s_inj hv (h6 j qj).1 hs (h6 j qj).2 h0 e.symm) (hn j qj)
      · intro _
        omega
theorem WM.n_le (h : WM M E w n σ c g T F) (hw : w < 100000) (hn : n < 1000000) : n ≤ 4096 := by
  obtain ⟨h1, h2, h3, h4, h5, h6⟩ := h
  refine pigeon 4096 n (fun j => s_s (σ j)) (fun i hi => s_sl (h6 i hi).1.1) (fun i j hi hj e => ?_)
  have e : s_s (σ i) = s_s (σ j) := e
  have a := h5.2 i hi
  rw [e, h5.2 j hj] at a
  have := (nI_eq (by omega) (by omega)).mp a
  omega
theorem sX10_arrive_b93 {p k : Nat} {x : Nat} (hp : p < 4096) (hk : k < 4096) (hw : w < 100000) (e : q_a M 6 3 p = nI (4096 * w + k)) {y : Nat} (e2 : q_l M 6 1 k = lN y) : fX10_arrive_b93 M (lN x) (nI p) = some (p_l M 6 1 k (lN (y + x))) := by
  have em : (4096 * w + k) % 4096 = k := by omega
  unfold fX10_arrive_b93
  simp (disch := omega) only [y_lit, y_lt_T, y_lt_F, y_le_T, y_le_F, y_eq_T, y_eq_F, y_in_T, y_cl, ↓reduceIte, y_bs, y_bvs, y_os, y_on, y_t, ne_eq, not_true_eq_false, not_false_eq_true, pk_mul, nI_add, e, y_and4095, em, e2, lN_add]
/-- it waits already -/
theorem sX10_arrive_old (h : WM M E w n σ c g T F) (hw : w < 100000) (hn : n ≤ 4096) {s : ST} (hs : v_w E s) {k : Nat} (hk : k < n) (e : σ k = s) (x a : Nat) :
    qV (fX10_arrive M (s_p s) (lN x) (nI a)) (fun N => WM N E w n σ (u_f c k (c k + x)) g T F ∧ kp S6 M N) := by
  obtain ⟨h1, h2, h3, h4, h5, h6⟩ := h
  have hp := s_sl hs.1
  have e3 := h5.2 k hk
  rw [e] at e3
  have ed : (4096 * w + k) / 4096 = w := by omega
  refine ⟨p_l M 6 1 k (lN (c k + x)), ?_, ⟨?_, ?_, fun j a => ?_, fun o a => ?_, ⟨fun p a => ?_, fun j a => ?_⟩, h6⟩, kp_l ⟨rfl, by decide⟩⟩
  · unfold fX10_arrive
    rw [sX7_spot M hs.1, q_b_s]
    simp (disch := omega) only [y_lit, y_lt_T, y_lt_F, y_le_T, y_le_F, y_eq_T, y_eq_F, y_in_T, y_cl, ↓reduceIte, y_bs, y_bvs, y_os, y_on, y_t, ne_eq, not_true_eq_false, not_false_eq_true, pk_mul, nI_add, e3, h1, y_shr12, ed]
    exact sX10_arrive_b93 hp (by omega) hw e3 (h3 k hk).2.1
  · rw [y_il]
    exact h1
  · rw [y_il]
    exact h2
  · rw [y_al, y_al, y_ll]
    obtain ⟨g1, g2, g3⟩ := h3 j a
    refine ⟨g1, ?_, g3⟩
    by_cases q : j = k
    · subst q
      rw [if_pos ⟨rfl, rfl, rfl⟩, u_f_e]
    · rw [if_neg (fun z => q z.2.2), u_f_n _ _ q]
      exact g2
  · rw [y_ll, y_al, if_neg (fun z => absurd z.2.1 (by decide))]
    exact h4 o a
  · rw [y_al]
    exact h5.1 p a
  · rw [y_al]
    exact h5.2 j a
/-- it is new -/
theorem sX10_arrive_new (hv : v_ok nc E) (h : WM M E w n σ c g T F) (hw : w < 100000) (hn : n ≤ 4096) {s : ST} (hs : v_w E s) (h0 : s_e s = 0) (hk : ∀ k, k < n → σ k ≠ s) (x a : Nat) :
    qV (fX10_arrive M (s_p s) (lN x) (nI a)) (fun N => WM N E w (n + 1) (u_f σ n s) (u_f c n x) (u_f g n a) T F ∧ kp S6 M N) := by
  have hf := h.fits hv hw hs h0 hk hn
  obtain ⟨h1, h2, h3, h4, h5, h6⟩ := h
  have hp := s_sl hs.1
  obtain ⟨b, hb, e3, hb2⟩ := h5.1 _ hp
  have ed : b / 4096 ≠ w := fun z => by
    obtain ⟨g1, g2⟩ := hb2 (by omega)
    obtain ⟨w1, w2⟩ := h6 _ g1
    exact hk _ g1 (s_s_inj hv w1 hs w2 h0 g2)
  generalize hpp : s_s s = p at hp e3 hb2
  let N1 := p_a M 6 3 p (nI (n + w * 2 ^ 12))
  let N2 := p_a N1 6 0 n (s_p s)
  let N3 := p_l N2 6 1 n (lN 0)
  let N4 := p_a N3 6 2 n (nI a)
  let N5 := p_i N4 6 6 (nI (n + 1))
  have k5 : kp S6 M N5 := (((kp_a ⟨rfl, by decide⟩).tr (kp_a ⟨rfl, by decide⟩)).tr ((kp_l ⟨rfl, by decide⟩).tr (kp_a ⟨rfl, by decide⟩))).tr (kp_i ⟨rfl, by decide⟩)
  have e5 : q_a N5 6 3 p = nI (4096 * w + n) := by
    simp only [N5, N4, N3, N2, N1, y_ii, y_ia, y_il, y_ir, y_ai, y_aa, y_al, y_ar, y_li, y_la, y_ll, y_lr, y_ri, y_ra, y_rl, y_rr, and_true, true_and, and_false, false_and, and_self, if_true, if_false, Nat.reduceEqDiff, reduceCtorEq, or_false, false_or, or_true, true_or]
    rw [show n + w * 2 ^ 12 = 4096 * w + n by omega]
  have e6 : q_l N5 6 1 n = lN 0 := by
    simp only [N5, N4, N3, N2, N1, y_ii, y_ia, y_il, y_ir, y_ai, y_aa, y_al, y_ar, y_li, y_la, y_ll, y_lr, y_ri, y_ra, y_rl, y_rr, and_true, true_and, and_false, false_and, and_self, if_true, if_false, Nat.reduceEqDiff, reduceCtorEq, or_false, false_or, or_true, true_or]
  refine ⟨p_l N5 6 1 n (lN (0 + x)), ?_, ⟨?_, ?_, fun j a => ?_, fun o a => ?_, ⟨fun p2 a => ?_, fun j a => ?_⟩, fun j a => ?_⟩, k5.tr (kp_l ⟨rfl, by decide⟩)⟩
  · have f := sX10_arrive_b93 (x := x) hp hf hw e5 e6
    unfold fX10_arrive
    rw [sX7_spot M hs.1, q_b_s, hpp]
    simp (disch := omega) only [y_lit, y_lt_T, y_lt_F, y_le_T, y_le_F, y_eq_T, y_eq_F, y_in_T, y_cl, ↓reduceIte, y_bs, y_bvs, y_os, y_on, y_t, ne_eq, not_true_eq_false, not_false_eq_true, pk_mul, nI_add, e3, h1, y_shr12, h2, y_shl12, y_or12, y_ii, y_ia, y_il, y_ir, y_ai, y_aa, y_al, y_ar, y_li, y_la, y_ll, y_lr, y_ri, y_ra, y_rl, y_rr, and_true, true_and, and_false, false_and, and_self, if_true, if_false, Nat.reduceEqDiff, reduceCtorEq, or_false, false_or, or_true, true_or, y_lit64]
    exact f
  · simp only [N5, N4, N3, N2, N1, y_ii, y_ia, y_il, y_ir, y_ai, y_aa, y_al, y_ar, y_li, y_la, y_ll, y_lr, y_ri, y_ra, y_rl, y_rr, and_true, true_and, and_false, false_and, and_self, if_true, if_false, Nat.reduceEqDiff, reduceCtorEq, or_false, false_or, or_true, true_or]
    exact h1
  · simp only [N5, N4, N3, N2, N1, y_ii, y_ia, y_il, y_ir, y_ai, y_aa, y_al, y_ar, y_li, y_la, y_ll, y_lr, y_ri, y_ra, y_rl, y_rr, and_true, true_and, and_false, false_and, and_self, if_true, if_false, Nat.reduceEqDiff, reduceCtorEq, or_false, false_or, or_true, true_or]
  · by_cases q : j = n
    · subst q
      simp only [N5, N4, N3, N2, N1, y_ii, y_ia, y_il, y_ir, y_ai, y_aa, y_al, y_ar, y_li, y_la, y_ll, y_lr, y_ri, y_ra, y_rl, y_rr, and_true, true_and, and_false, false_and, and_self, if_true, if_false, Nat.reduceEqDiff, reduceCtorEq, or_false, false_or, or_true, true_or, u_f_e, Nat.zero_add]
    · simp only [N5, N4, N3, N2, N1, y_ii, y_ia, y_il, y_ir, y_ai, y_aa, y_al, y_ar, y_li, y_la, y_ll, y_lr, y_ri, y_ra, y_rl, y_rr, and_true, true_and, and_false, false_and, and_self, if_true, if_false, Nat.reduceEqDiff, reduceCtorEq, or_false, false_or, or_true, true_or, q, u_f_n _ _ q]
      exact h3 j (by omega)
  · simp only [N5, N4, N3, N2, N1, y_ii, y_ia, y_il, y_ir, y_ai, y_aa, y_al, y_ar, y_li, y_la, y_ll, y_lr, y_ri, y_ra, y_rl, y_rr, and_true, true_and, and_false, false_and, and_self, if_true, if_false, Nat.reduceEqDiff, reduceCtorEq, or_false, false_or, or_true, true_or]
    exact h4 o a
  · by_cases q : p2 = p
    · subst q
      refine ⟨4096 * w + n, by omega, e5, fun _ => ?_⟩
      rw [show 4096 * w + n - 4096 * w = n by omega, u_f_e]
      exact ⟨by omega, hpp⟩
    · simp only [N5, N4, N3, N2, N1, y_ii, y_ia, y_il, y_ir, y_ai, y_aa, y_al, y_ar, y_li, y_la, y_ll, y_lr, y_ri, y_ra, y_rl, y_rr, and_true, true_and, and_false, false_and, and_self, if_true, if_false, Nat.reduceEqDiff, reduceCtorEq, or_false, false_or, or_true, true_or, q]
      obtain ⟨b2, c1, c2, c3⟩ := h5.1 p2 a
      refine ⟨b2, c1, c2, fun z => ?_⟩
      obtain ⟨d1, d2⟩ := c3 z
      rw [u_f_n _ _ (show b2 - 4096 * w ≠ n by omega)]
      exact ⟨by omega, d2⟩
  · by_cases q : j = n
    · subst q
      rw [u_f_e, hpp]
      exact e5
    · have nj : j < n := by omega
      have ne : ¬ s_s (σ j) = p := fun z => hk j nj (s_s_inj hv (h6 j nj).1 hs (h6 j nj).2 h0 (z.trans hpp.symm))
      rw [u_f_n _ _ q]
      simp only [N5, N4, N3, N2, N1, y_ii, y_ia, y_il, y_ir, y_ai, y_aa, y_al, y_ar, y_li, y_la, y_ll, y_lr, y_ri, y_ra, y_rl, y_rr, and_true, true_and, and_false, false_and, and_self, if_true, if_false, Nat.reduceEqDiff, reduceCtorEq, or_false, false_or, or_true, true_or, ne]
      exact h5.2 j nj
  · by_cases q : j = n
    · subst q
      rw [u_f_e]
      exact ⟨hs, h0⟩
    · rw [u_f_n _ _ q]
      exact h6 j (by omega)
/-- it is reached -/
theorem sX10_reach (h : WM M E w n σ c g T F) {u : Nat} (hu : u < 20) (hT : T u < 2147483648) (x a : Nat) :
    qV (fX10_reach M (nI u) (lN x) (nI a)) (fun N => WM N E w n σ c g (u_f T u (T u + x)) (u_f F u (if T u = 0 then a else F u)) ∧ kp S6 M N) := by
  obtain ⟨h1, h2, h3, h4, h5, h6⟩ := h
  obtain ⟨e1, e2⟩ := h4 u hu
  by_cases q : T u = 0
  · refine ⟨p_l (p_a M 6 5 u (nI a)) 6 4 u (lN (T u + x)), ?_, ⟨?_, ?_, fun j a => ?_, fun o b => ?_, ⟨fun p a => ?_, fun j a => ?_⟩, h6⟩, (kp_a ⟨rfl, by decide⟩).tr (kp_l ⟨rfl, by decide⟩)⟩
    · unfold fX10_reach fX10_reach_b30
      rw [q] at e1 ⊢
      simp (disch := omega) only [y_lit, y_lt_T, y_lt_F, y_le_T, y_le_F, y_eq_T, y_eq_F, y_in_T, y_cl, ↓reduceIte, y_bs, y_bvs, y_os, y_on, y_t, ne_eq, not_true_eq_false, not_false_eq_true, pk_mul, nI_add, y_ii, y_ia, y_il, y_ir, y_ai, y_aa, y_al, y_ar, y_li, y_la, y_ll, y_lr, y_ri, y_ra, y_rl, y_rr, and_true, true_and, and_false, false_and, and_self, if_true, if_false, Nat.reduceEqDiff, reduceCtorEq, or_false, false_or, or_true, true_or, e1, y_lit64, y_cmp0, lN_add]
    · simp only [y_ii, y_ia, y_il, y_ir, y_ai, y_aa, y_al, y_ar, y_li, y_la, y_ll, y_lr, y_ri, y_ra, y_rl, y_rr, and_true, true_and, and_false, false_and, and_self, if_true, if_false, Nat.reduceEqDiff, reduceCtorEq, or_false, false_or, or_true, true_or]
      exact h1
    · simp only [y_ii, y_ia, y_il, y_ir, y_ai, y_aa, y_al, y_ar, y_li, y_la, y_ll, y_lr, y_ri, y_ra, y_rl, y_rr, and_true, true_and, and_false, false_and, and_self, if_true, if_false, Nat.reduceEqDiff, reduceCtorEq, or_false, false_or, or_true, true_or]
      exact h2
    · simp only [y_ii, y_ia, y_il, y_ir, y_ai, y_aa, y_al, y_ar, y_li, y_la, y_ll, y_lr, y_ri, y_ra, y_rl, y_rr, and_true, true_and, and_false, false_and, and_self, if_true, if_false, Nat.reduceEqDiff, reduceCtorEq, or_false, false_or, or_true, true_or]
      exact h3 j a
    · by_cases q2 : o = u
      · subst q2
        simp only [y_ii, y_ia, y_il, y_ir, y_ai, y_aa, y_al, y_ar, y_li, y_la, y_ll, y_lr, y_ri, y_ra, y_rl, y_rr, and_true, true_and, and_false, false_and, and_self, if_true, if_false, Nat.reduceEqDiff, reduceCtorEq, or_false, false_or, or_true, true_or, u_f_e, q]
      · simp only [y_ii, y_ia, y_il, y_ir, y_ai, y_aa, y_al, y_ar, y_li, y_la, y_ll, y_lr, y_ri, y_ra, y_rl, y_rr, and_true, true_and, and_false, false_and, and_self, if_true, if_false, Nat.reduceEqDiff, reduceCtorEq, or_false, false_or, or_true, true_or, q2, u_f_n _ _ q2]
        exact h4 o b
    · simp only [y_ii, y_ia, y_il, y_ir, y_ai, y_aa, y_al, y_ar, y_li, y_la, y_ll, y_lr, y_ri, y_ra, y_rl, y_rr, and_true, true_and, and_false, false_and, and_self, if_true, if_false, Nat.reduceEqDiff, reduceCtorEq, or_false, false_or, or_true, true_or]
      exact h5.1 p a
    · simp only [y_ii, y_ia, y_il, y_ir, y_ai, y_aa, y_al, y_ar, y_li, y_la, y_ll, y_lr, y_ri, y_ra, y_rl, y_rr, and_true, true_and, and_false, false_and, and_self, if_true, if_false, Nat.reduceEqDiff, reduceCtorEq, or_false, false_or, or_true, true_or]
      exact h5.2 j a
  · refine ⟨p_l M 6 4 u (lN (T u + x)), ?_, ⟨?_, ?_, fun j a => ?_, fun o b => ?_, ⟨fun p a => ?_, fun j a => ?_⟩, h6⟩, kp_l ⟨rfl, by decide⟩⟩
    · unfold fX10_reach fX10_reach_b30
      simp (disch := omega) only [y_lit, y_lt_T, y_lt_F, y_le_T, y_le_F, y_eq_T, y_eq_F, y_in_T, y_cl, ↓reduceIte, y_bs, y_bvs, y_os, y_on, y_t, ne_eq, not_true_eq_false, not_false_eq_true, pk_mul, nI_add, y_ii, y_ia, y_il, y_ir, y_ai, y_aa, y_al, y_ar, y_li, y_la, y_ll, y_lr, y_ri, y_ra, y_rl, y_rr, and_true, true_and, and_false, false_and, and_self, if_true, if_false, Nat.reduceEqDiff, reduceCtorEq, or_false, false_or, or_true, true_or, e1, y_lit64, y_cmp1, lN_add]
    · simp only [y_ii, y_ia, y_il, y_ir, y_ai, y_aa, y_al, y_ar, y_li, y_la, y_ll, y_lr, y_ri, y_ra, y_rl, y_rr, and_true, true_and, and_false, false_and, and_self, if_true, if_false, Nat.reduceEqDiff, reduceCtorEq, or_false, false_or, or_true, true_or]
      exact h1
    · simp only [y_ii, y_ia, y_il, y_ir, y_ai, y_aa, y_al, y_ar, y_li, y_la, y_ll, y_lr, y_ri, y_ra, y_rl, y_rr, and_true, true_and, and_false, false_and, and_self, if_true, if_false, Nat.reduceEqDiff, reduceCtorEq, or_false, false_or, or_true, true_or]
      exact h2
    · simp only [y_ii, y_ia, y_il, y_ir, y_ai, y_aa, y_al, y_ar, y_li, y_la, y_ll, y_lr, y_ri, y_ra, y_rl, y_rr, and_true, true_and, and_false, false_and, and_self, if_true, if_false, Nat.reduceEqDiff, reduceCtorEq, or_false, false_or, or_true, true_or]
      exact h3 j a
    · by_cases q2 : o = u
      · subst q2
        simp only [y_ii, y_ia, y_il, y_ir, y_ai, y_aa, y_al, y_ar, y_li, y_la, y_ll, y_lr, y_ri, y_ra, y_rl, y_rr, and_true, true_and, and_false, false_and, and_self, if_true, if_false, Nat.reduceEqDiff, reduceCtorEq, or_false, false_or, or_true, true_or, u_f_e, q]
        exact e2
      · simp only [y_ii, y_ia, y_il, y_ir, y_ai, y_aa, y_al, y_ar, y_li, y_la, y_ll, y_lr, y_ri, y_ra, y_rl, y_rr, and_true, true_and, and_false, false_and, and_self, if_true, if_false, Nat.reduceEqDiff, reduceCtorEq, or_false, false_or, or_true, true_or, q2, u_f_n _ _ q2]
        exact h4 o b
    · simp only [y_ii, y_ia, y_il, y_ir, y_ai, y_aa, y_al, y_ar, y_li, y_la, y_ll, y_lr, y_ri, y_ra, y_rl, y_rr, and_true, true_and, and_false, false_and, and_self, if_true, if_false, Nat.reduceEqDiff, reduceCtorEq, or_false, false_or, or_true, true_or]
      exact h5.1 p a
    · simp only [y_ii, y_ia, y_il, y_ir, y_ai, y_aa, y_al, y_ar, y_li, y_la, y_ll, y_lr, y_ri, y_ra, y_rl, y_rr, and_true, true_and, and_false, false_and, and_self, if_true, if_false, Nat.reduceEqDiff, reduceCtorEq, or_false, false_or, or_true, true_or]
      exact h5.2 j a
end WALKR
