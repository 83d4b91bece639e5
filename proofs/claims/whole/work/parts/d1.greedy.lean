/-! the reference's brief -/
def s_plc (s : ST) : Int32 := if s_e s = 0 then nI (s_pl s) else -nI 1
def x_9 (m : Nat) : Int32 := if m = 0 then -nI 1 else nI (m - 1)
theorem x_9s (m : Nat) : x_9 (m + 1) = nI m := by
  unfold x_9
  rw [if_neg (by omega)]
  rfl
theorem x_9d {m : Nat} (hm : m < 20) : nI m + -nI 1 = x_9 m := by
  have : ∀ m, m < 20 → nI m + -nI 1 = x_9 m := by decide
  exact this m hm
theorem VA1.sd {M N : QM} {E : EV} {x : Int32} {b : Nat} (h : VA1 M E x b) (k : kp SD M N) : VA1 N E x b := by
  unfold VA1 at h ⊢
  rw [k.a (by unfold SD; omega), k.a (by unfold SD; omega), k.a (by unfold SD; omega), k.l (by unfold SD; omega), k.a (by unfold SD; omega)]
  exact h
/-- the moves from m on: the first that is the brief's -/
def b_a (E : EV) (x : Int32) (t : ST) (m : Nat) (x4 x6 : Int32) : Prop := (∃ i, m ≤ i ∧ i < 11 ∧ v_P E x t i = true ∧ (∀ j, m ≤ j → j < i → v_P E x t j = false) ∧ x6 = nI i ∧ x4 = s_plc (v_a E t i true)) ∨ ∀ i, m ≤ i → i < 11 → v_P E x t i = false
theorem b_a_no {E : EV} {x : Int32} {t : ST} {m : Nat} {x4 x6 : Int32} (h : b_a E x t (m + 1) x4 x6) (hm : v_P E x t m = false) : b_a E x t m x4 x6 := by
  rcases h with ⟨i, a, b, d, e, f⟩ | h
  · refine Or.inl ⟨i, by omega, b, d, fun j g1 g2 => ?_, f⟩
    by_cases q : j = m
    · subst q; exact hm
    · exact e j (by omega) g2
  · refine Or.inr (fun i a b => ?_)
    by_cases q : i = m
    · subst q; exact hm
    · exact h i (by omega) b
theorem b_a_yes {E : EV} {x : Int32} {t : ST} {m : Nat} (hm : m < 11) (hp : v_P E x t m = true) : b_a E x t m (s_plc (v_a E t m true)) (nI m) := Or.inl ⟨m, Nat.le_refl _, hm, hp, fun j a b => by omega, rfl, rfl⟩
section GREEDY
variable {nc c0 c1 L k y : Nat} {M : QM} {E : EV} {x : Int32} {t s0 : ST} {c : Nat → Bool}
theorem sX12_brief_b115 (hv : v_ok nc E) (hcc : ∀ b, 1536 ≤ b → CC E c b) (ht : v_w E t) (t0 : s_e t = 0) (ct : c (s_pl t) = true) (hL : L < 90) (hk : v_b E x t + k = L) (hu : ∃ o, o < 20 ∧ x = nI o) {x3 : Int32} {K : QM → Int32 → Int32 → Int32 → Int32 → Int32 → Int32 → Option (Int32 × QM)} : ∀ (m f : Nat) (N : QM) (x4 x6 : Int32), m ≤ 11 → m < f → PY N E c0 c1 → (∀ b, c b = true → VA1 N E x b) → b_a E x t m x4 x6 →
    ∃ N1, fX12_brief_b115 K f N x x3 x4 (nI L) x6 (nI k) (nI (s_pl t)) (x_9 m) = K N1 x x3 (s_plc (v_a E t (v_M E x t) true)) (nI L) (nI (v_M E x t)) (nI (k + 1)) ∧ PY N1 E c0 c1 ∧ (∀ b, c b = true → VA1 N1 E x b) ∧ kp SD N N1 := by
  have wl := ht.2 t0
  have hh := v_h_le hv
  have hpl := s_pl_b ht.1
  have hx : s_pl t < 13824 := by omega
  have hup := s_up_pl ht.1 t0 wl.1
  have bp := v_b_pos (E := E) (x := x) t0 wl.2.1
  obtain ⟨m1, m2, m3⟩ := v_M_ok (E := E) (x := x) t0 wl.2.1 (by omega)
  intro m
  induction m with
  | zero =>
    intro f N x4 x6 hm hf P VA acc
    obtain ⟨f, rfl⟩ : ∃ p, f = p + 1 := ⟨f - 1, by omega⟩
    have h0 : x_9 0 = -nI 1 := rfl
    rcases acc with ⟨i, a, b, d, e, e6, e4⟩ | h
    · have hi : i = v_M E x t := by
        obtain ⟨p1, p2⟩ := v_PI.mp d
        have q1 := m3 i p1 p2
        by_cases q : i = v_M E x t
        · exact q
        · have z := e (v_M E x t) (by omega) (by omega)
          rw [v_PI.mpr ⟨m1, m2⟩] at z
          cases z
      subst hi
      refine ⟨N, ?_, P, VA, kp.rf⟩
      rw [e6, e4, h0, fX12_brief_b115]
      simp (disch := omega) only [y_lit, y_lt_T, y_lt_F, y_le_T, y_le_F, y_eq_T, y_eq_F, y_in_T, y_cl, ↓reduceIte, y_bs, y_bvs, y_os, y_on, y_t, ne_eq, not_true_eq_false, not_false_eq_true, pk_mul, nI_add, m1_lt, fX12_brief_b222]
    · have z := h (v_M E x t) (by omega) (v_can_11 m1)
      rw [v_PI.mpr ⟨m1, m2⟩] at z
      cases z
  | succ m ih =>
    intro f N x4 x6 hm hf P VA acc
    obtain ⟨f, rfl⟩ : ∃ p, f = p + 1 := ⟨f - 1, by omega⟩
    obtain ⟨N1, e1, R1, k1⟩ := sX12_goTo N hx
    rw [hup] at R1
    have k1D : kp SD N N1 := k1.wd (fun a j z => ⟨z.1, Or.inr z.2⟩)
    have P1 := P.kept k1D (fun a j z => z)
    have cn := sX12_can P1 hv R1 ht (show m < 11 by omega)
    have eLk : nI L - nI k = nI (L - k) := pk_sub (by omega)
    rw [x_9s, fX12_brief_b115]
    simp (disch := omega) only [y_lit, y_lt_T, y_lt_F, y_le_T, y_le_F, y_eq_T, y_eq_F, y_in_T, y_cl, ↓reduceIte, y_bs, y_bvs, y_os, y_on, y_t, ne_eq, not_true_eq_false, not_false_eq_true, pk_mul, nI_add]
    rw [e1, q_bv_s, cn, q_b_s]
    by_cases cc : v_can E t m = true
    · obtain ⟨N2, e2, R2, k2⟩ := sX12_does P1 hv R1 ht cc true
      have hwa := v_a_w hv ht cc true
      have he5 : s_e (v_a E t m true) < 5 := hwa.1.2.2.2.2.2.1
      have k12 : kp SD N N2 := k1D.tr k2
      have P2 := P.kept k12 (fun a j z => z)
      have VA2 : ∀ b, c b = true → VA1 N2 E x b := fun b hb => (VA b hb).sd k12
      have e2' : fX12_does N1 (nI m) (nI 1) = some N2 := e2
      have bc := v_b_le E x (v_a E t m true)
      have nxt : ∀ x4 x6, b_a E x t m x4 x6 → ∃ N3, fX12_brief_b115 K f N2 x x3 x4 (nI L) x6 (nI k) (nI (s_pl t)) (x_9 m) = K N3 x x3 (s_plc (v_a E t (v_M E x t) true)) (nI L) (nI (v_M E x t)) (nI (k + 1)) ∧ PY N3 E c0 c1 ∧ (∀ b, c b = true → VA1 N3 E x b) ∧ kp SD N N3 := fun x4 x6 acc2 => by
        obtain ⟨N3, f1, f2, f3, f4⟩ := ih f N2 x4 x6 (by omega) (by omega) P2 VA2 acc2
        exact ⟨N3, f1, f2, f3, k12.tr f4⟩
      have vP : v_P E x t m = true ↔ v_b E x (v_a E t m true) + 1 = L - k := by
        rw [v_PI]
        exact ⟨fun z => by omega, fun z => ⟨cc, by omega⟩⟩
      have fin : ∃ N3, fX12_brief_b178 (fun M x2 x3 x4 x5 x6 x7 x8 x9 => fX12_brief_b115 K f M x2 x3 x4 x5 x6 x7 x8 x9) K N2 x x3 x4 (nI L) x6 (nI k) (nI (s_pl t)) (nI m) (nI (v_b E x (v_a E t m true))) = K N3 x x3 (s_plc (v_a E t (v_M E x t) true)) (nI L) (nI (v_M E x t)) (nI (k + 1)) ∧ PY N3 E c0 c1 ∧ (∀ b, c b = true → VA1 N3 E x b) ∧ kp SD N N3 := by
        by_cases cP : v_b E x (v_a E t m true) + 1 = L - k
        · have acc2 := b_a_yes (m := m) (by omega) (vP.mpr cP)
          by_cases ce : s_e (v_a E t m true) = 0
          · have ep : s_plc (v_a E t m true) = nI (s_pl (v_a E t m true)) := if_pos ce
            rw [ep] at acc2
            obtain ⟨N3, f1, f2⟩ := nxt _ _ acc2
            refine ⟨N3, ?_, f2⟩
            unfold fX12_brief_b178
            simp (disch := omega) only [y_lit, y_lt_T, y_lt_F, y_le_T, y_le_F, y_eq_T, y_eq_F, y_in_T, y_cl, ↓reduceIte, y_bs, y_bvs, y_os, y_on, y_t, ne_eq, not_true_eq_false, not_false_eq_true, pk_mul, nI_add, eLk, R2.2.2.2.2.1]
            rw [sX12_place R2 hwa.1 ce, q_b_s]
            simp only [fX12_brief_b214, fX12_brief_b216, y_lit, x_9d (show m < 20 by omega)]
            exact f1
          · have ep : s_plc (v_a E t m true) = -nI 1 := if_neg ce
            rw [ep] at acc2
            obtain ⟨N3, f1, f2⟩ := nxt _ _ acc2
            refine ⟨N3, ?_, f2⟩
            unfold fX12_brief_b178
            simp (disch := omega) only [y_lit, y_lt_T, y_lt_F, y_le_T, y_le_F, y_eq_T, y_eq_F, y_in_T, y_cl, ↓reduceIte, y_bs, y_bvs, y_os, y_on, y_t, ne_eq, not_true_eq_false, not_false_eq_true, pk_mul, nI_add, eLk, R2.2.2.2.2.1]
            simp only [fX12_brief_b214, fX12_brief_b216, y_lit, x_9d (show m < 20 by omega)]
            exact f1
        · have acc2 := b_a_no acc (Bool.eq_false_iff.mpr (fun z => cP (vP.mp z)))
          obtain ⟨N3, f1, f2⟩ := nxt _ _ acc2
          refine ⟨N3, ?_, f2⟩
          unfold fX12_brief_b178
          simp (disch := omega) only [y_lit, y_lt_T, y_lt_F, y_le_T, y_le_F, y_eq_T, y_eq_F, y_in_T, y_cl, ↓reduceIte, y_bs, y_bvs, y_os, y_on, y_t, ne_eq, not_true_eq_false, not_false_eq_true, pk_mul, nI_add, eLk]
          simp only [fX12_brief_b216, y_lit, x_9d (show m < 20 by omega)]
          exact f1
      simp (disch := omega) only [y_lit, y_lt_T, y_lt_F, y_le_T, y_le_F, y_eq_T, y_eq_F, y_in_T, y_cl, ↓reduceIte, y_bs, y_bvs, y_os, y_on, y_t, ne_eq, not_true_eq_false, not_false_eq_true, pk_mul, nI_add, cc, if_true]
      rw [e2', q_bv_s, R2.2.2.2.2.1]
      by_cases ce : s_e (v_a E t m true) = 0
      · have hb2 := s_pl_b hwa.1
        have wl2 := hwa.2 ce
        have cp : c (s_pl (v_a E t m true)) = true := by
          have z := hcc (s_pl t) (by omega) ct m (by omega)
          rw [hup] at z
          exact z cc ce
        have v := VA2 _ cp
        unfold VA1 at v
        rw [s_up_pl hwa.1 ce wl2.1] at v
        simp (disch := omega) only [y_lit, y_lt_T, y_lt_F, y_le_T, y_le_F, y_eq_T, y_eq_F, y_in_T, y_cl, ↓reduceIte, y_bs, y_bvs, y_os, y_on, y_t, ne_eq, not_true_eq_false, not_false_eq_true, pk_mul, nI_add]
        rw [sX12_place R2 hwa.1 ce, q_b_s]
        simp (disch := omega) only [y_lit, y_lt_T, y_lt_F, y_le_T, y_le_F, y_eq_T, y_eq_F, y_in_T, y_cl, ↓reduceIte, y_bs, y_bvs, y_os, y_on, y_t, ne_eq, not_true_eq_false, not_false_eq_true, pk_mul, nI_add, v.2.2.2.2]
        exact fin
      · simp (disch := omega) only [y_lit, y_lt_T, y_lt_F, y_le_T, y_le_F, y_eq_T, y_eq_F, y_in_T, y_cl, ↓reduceIte, y_bs, y_bvs, y_os, y_on, y_t, ne_eq, not_true_eq_false, not_false_eq_true, pk_mul, nI_add]
        rw [sX12_outcome R2, q_b_s]
        rw [v_b_e ce] at fin
        by_cases eu : nI (s_u (v_a E t m true)) = x
        · rw [if_pos eu] at fin
          rw [if_neg (by rw [eu]; exact fun z => z rfl)]
          exact fin
        · rw [if_neg eu] at fin
          rw [if_pos eu]
          exact fin
    · have cf : v_P E x t m = false := Bool.eq_false_iff.mpr (fun z => cc (v_PI.mp z).1)
      obtain ⟨N3, f1, f2, f3, f4⟩ := ih f N1 x4 x6 (by omega) (by omega) P1 (fun b hb => (VA b hb).sd k1D) (b_a_no acc cf)
      refine ⟨N3, ?_, f2, f3, k1D.tr f4⟩
      simp (disch := omega) only [y_lit, y_lt_T, y_lt_F, y_le_T, y_le_F, y_eq_T, y_eq_F, y_in_T, y_cl, ↓reduceIte, y_bs, y_bvs, y_os, y_on, y_t, ne_eq, not_true_eq_false, not_false_eq_true, pk_mul, nI_add, cc, if_false, Bool.false_eq_true]
      simp only [fX12_brief_b216, y_lit, x_9d (show m < 20 by omega)]
      exact f1
theorem v_q_c (hv : v_ok nc E) (hcc : ∀ b, 1536 ≤ b → CC E c b) (hs : v_w E s0) (h0 : s_e s0 = 0) (hb : v_b E x s0 < 99) (hc : c (s_pl s0) = true) : ∀ k, k < v_b E x s0 → c (s_pl (v_q E x s0 k)) = true := by
  intro k
  induction k with
  | zero => intro _; exact hc
  | succ k ih =>
    intro hk
    have ck := ih (by omega)
    obtain ⟨g1, g2, g3, g4⟩ := v_q_ok hv hs h0 hb k (by omega)
    obtain ⟨f1, f2, f3, f4⟩ := v_q_ok hv hs h0 hb (k + 1) hk
    have wl := g1.2 g2
    obtain ⟨m1, m2, m3⟩ := v_M_ok (E := E) (x := x) g2 wl.2.1 (by omega)
    have hpl := s_pl_b g1.1
    have z := hcc (s_pl (v_q E x s0 k)) (by omega) ck (v_M E x (v_q E x s0 k)) (v_can_11 m1)
    rw [s_up_pl g1.1 g2 wl.1] at z
    exact z m1 f2
theorem sX12_brief_b98 (hv : v_ok nc E) (hcc : ∀ b, 1536 ≤ b → CC E c b) (hs : v_w E s0) (h0 : s_e s0 = 0) (hb : v_b E x s0 < 99) (hc : c (s_pl s0) = true) (hu : ∃ o, o < 20 ∧ x = nI o) (hy : y < v_b E x s0) : ∀ (d k f : Nat) (N : QM) (x6 : Int32), k + d = y + 1 → d < f → PY N E c0 c1 → (∀ b, c b = true → VA1 N E x b) → (k ≠ 0 → x6 = nI (v_M E x (v_q E x s0 (k - 1)))) →
    qW (fX12_brief_b98 f N x (nI y) (s_plc (v_q E x s0 k)) (nI (v_b E x s0)) x6 (nI k)) (fun r N1 => r = nI (v_M E x (v_q E x s0 y)) ∧ kp SD N N1) := by
  have b8 := v_b_8 hv x hs
  intro d
  induction d with
  | zero =>
    intro k f N x6 hk hf P VA h6
    obtain ⟨f, rfl⟩ : ∃ p, f = p + 1 := ⟨f - 1, by omega⟩
    have e : k = y + 1 := hk
    subst e
    rw [h6 (by omega), fX12_brief_b98]
    simp (disch := omega) only [y_lit, y_lt_T, y_lt_F, y_le_T, y_le_F, y_eq_T, y_eq_F, y_in_T, y_cl, ↓reduceIte, y_bs, y_bvs, y_os, y_on, y_t, ne_eq, not_true_eq_false, not_false_eq_true, pk_mul, nI_add]
    exact qW_s ⟨rfl, kp.rf⟩
  | succ d ih =>
    intro k f N x6 hk hf P VA h6
    obtain ⟨f, rfl⟩ : ∃ p, f = p + 1 := ⟨f - 1, by omega⟩
    obtain ⟨g1, g2, g3, g4⟩ := v_q_ok hv hs h0 hb k (by omega)
    have ck := v_q_c hv hcc hs h0 hb hc k (by omega)
    have ep : s_plc (v_q E x s0 k) = nI (s_pl (v_q E x s0 k)) := if_pos g2
    obtain ⟨N1, f1, f2, f3, f4⟩ := sX12_brief_b115 (x3 := nI y) (K := fun M x2 x3 x4 x5 x6 x7 => fX12_brief_b98 f M x2 x3 x4 x5 x6 x7) hv hcc g1 g2 ck (show v_b E x s0 < 90 by omega) g3 hu 11 q_F N (nI (s_pl (v_q E x s0 k))) (-nI 1) (by decide) (q_Fn (by decide)) P VA (Or.inr (fun i a b => by omega))
    obtain ⟨r, N2, e2, r2, k2⟩ := ih (k + 1) f N1 (nI (v_M E x (v_q E x s0 k))) (by omega) (by omega) f2 f3 (fun _ => rfl)
    rw [ep, fX12_brief_b98]
    simp (disch := omega) only [y_lit, y_lt_T, y_lt_F, y_le_T, y_le_F, y_eq_T, y_eq_F, y_in_T, y_cl, ↓reduceIte, y_bs, y_bvs, y_os, y_on, y_t, ne_eq, not_true_eq_false, not_false_eq_true, pk_mul, nI_add]
    have f1 := f1.trans e2
    exact ⟨r, N2, f1, r2, f4.tr k2⟩
end GREEDY
