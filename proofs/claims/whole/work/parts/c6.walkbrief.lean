/-! the WALK: the brief -/
section WALKB
variable {nc n i : Nat} {E : EV} {x : Int32} {s s0 : ST} {σ : Nat → ST} {c g T F : Nat → Nat}
theorem v_b_8 (hv : v_ok nc E) (x : Int32) (hs : v_w E s) : v_b E x s = 99 ∨ v_b E x s ≤ 8 := by
  by_cases c : s_e s = 0
  · have h1 := v_h_le hv
    have h2 := (hs.2 c).2.2.1
    obtain ⟨g1, g2⟩ := v_bW hv (x := x) 8 s (by omega) hs (by decide)
    by_cases q : v_W E x s = 0
    · exact Or.inl (g1 q)
    · exact Or.inr (g2 q)
  · rw [v_b_e c]
    by_cases e : nI (s_u s) = x
    · rw [if_pos e]
      omega
    · rw [if_neg e]
      omega
/-- the brief's states -/
theorem v_q_ok (hv : v_ok nc E) (hs : v_w E s) (h0 : s_e s = 0) (hb : v_b E x s < 99) : ∀ k, k < v_b E x s → v_w E (v_q E x s k) ∧ s_e (v_q E x s k) = 0 ∧ v_b E x (v_q E x s k) + k = v_b E x s ∧ s_l (v_q E x s k) + k = s_l s := by
  intro k
  induction k with
  | zero => intro _; exact ⟨hs, h0, rfl, rfl⟩
  | succ k ih =>
    intro hk
    obtain ⟨g1, g2, g3, g4⟩ := ih (by omega)
    have hl := (g1.2 g2).2.1
    obtain ⟨m1, m2, m3⟩ := v_M_ok (E := E) g2 hl (x := x) (by omega)
    have hw := v_a_w hv g1 m1 true
    have hq : v_q E x s (k + 1) = v_a E (v_q E x s k) (v_M E x (v_q E x s k)) true := rfl
    rw [hq]
    have he : s_e (v_a E (v_q E x s k) (v_M E x (v_q E x s k)) true) = 0 := by
      by_cases q : s_e (v_a E (v_q E x s k) (v_M E x (v_q E x s k)) true) = 0
      · exact q
      · have z := v_b_e (E := E) (x := x) q
        rw [z] at m2
        by_cases e : nI (s_u (v_a E (v_q E x s k) (v_M E x (v_q E x s k)) true)) = x
        · rw [if_pos e] at m2
          omega
        · rw [if_neg e] at m2
          omega
    have e2 := v_a_l he
    exact ⟨hw, he, by omega, by omega⟩
/-- no way is shorter -/
theorem WI.far (hv : v_ok nc E) (h : WI E s0 n σ c g T F i 11) (x : Int32) (hL : v_b E x s0 < 99) : ∀ l j, j ≤ l → j < n → v_b E x s0 + s_l (σ j) ≤ v_b E x (σ j) + s_l s0 := by
  obtain ⟨h1, h2, h3, h4, h5, h6, h7⟩ := h
  have hh := v_h_le hv
  have w0 := h3.1 0 (by omega)
  rw [h2] at w0
  have b0 := v_b_8 hv x w0.1
  intro l
  induction l with
  | zero =>
    intro j a b
    have e : j = 0 := by omega
    subst e
    rw [h2]
    omega
  | succ l ih =>
    intro j a b
    by_cases q : j = 0
    · exact ih j (by omega) b
    · obtain ⟨i2, m2, e1, e2, e3, e4, e5⟩ := h4.1 j (by omega) b
      have wj := h3.1 j b
      have wi := h3.1 i2 (by omega)
      have bj := v_b_8 hv x wj.1
      have lj := (wj.1.2 wj.2.1)
      have li := (wi.1.2 wi.2.1)
      have l0 := (w0.1.2 w0.2.1)
      by_cases q2 : v_b E x (σ j) = 99
      · omega
      · have st := v_b_step wi.2.1 li.2.1 e4 (x := x) (show v_b E x (s_1 E (σ i2) m2) < 99 by rw [← e5]; omega)
        have lo : s_l (σ j) = s_l (σ i2) - 1 := by
          rw [e5]
          exact v_a_l (by rw [show v_a E (σ i2) m2 true = s_1 E (σ i2) m2 from rfl, ← e5]; exact wj.2.1)
        have st : v_b E x (σ i2) ≤ v_b E x (s_1 E (σ i2) m2) + 1 := st
        rw [← e5] at st
        have := ih i2 (by omega) (by omega)
        omega
/-- the first of its hour that is so far from the end -/
def w_1 (E : EV) (x : Int32) (n : Nat) (σ : Nat → ST) (s0 : ST) (k j : Nat) : Prop := j < n ∧ σ j = v_q E x s0 k ∧ ∀ j2, j2 < n → s_l (σ j2) + k = s_l s0 → v_b E x (σ j2) + k = v_b E x s0 → j ≤ j2
theorem WI.step (hv : v_ok nc E) (h : WI E s0 n σ c g T F i 11) (hi : n = i + 1) (hL : v_b E x s0 < 99) {k p : Nat} (hk : k + 1 < v_b E x s0) (hp : w_1 E x n σ s0 k p) : ∃ j, w_1 E x n σ s0 (k + 1) j ∧ 0 < j ∧ g j = 16 * p + v_M E x (v_q E x s0 k) := by
  have far := h.far hv x hL
  obtain ⟨h1, h2, h3, h4, h5, h6, h7⟩ := h
  have w0 := h3.1 0 (by omega)
  rw [h2] at w0
  obtain ⟨p1, p2, p3⟩ := hp
  obtain ⟨g1, g2, g3, g4⟩ := v_q_ok hv w0.1 w0.2.1 hL k (by omega)
  obtain ⟨f1, f2, f3, f4⟩ := v_q_ok hv w0.1 w0.2.1 hL (k + 1) hk
  obtain ⟨m1, m2, m3⟩ := v_M_ok (E := E) g2 (g1.2 g2).2.1 (x := x) (by omega)
  have hq : v_q E x s0 (k + 1) = s_1 E (σ p) (v_M E x (v_q E x s0 k)) := by
    rw [p2]
    rfl
  have m1 : v_can E (σ p) (v_M E x (v_q E x s0 k)) = true := by
    rw [p2]
    exact m1
  have mlt := v_can_11 m1
  obtain ⟨j2, a1, a2, a3, a4⟩ := (h5 p _ p1 (by omega) m1).1 (by rw [← hq]; exact f2)
  rw [← hq] at a3
  let P : Nat → Bool := fun j => decide (s_l (σ j) + (k + 1) = s_l s0 ∧ v_b E x (σ j) + (k + 1) = v_b E x s0)
  obtain ⟨l1, l2, l3⟩ := lst_ok n P j2 a2 (decide_eq_true (by rw [a3]; exact ⟨f4, f3⟩))
  generalize lst P n = j at l1 l2 l3
  have l1 := of_decide_eq_true l1
  have hj : j < n := by omega
  have hj0 : 0 < j := by
    by_cases q : j = 0
    · subst q
      rw [h2] at l1
      omega
    · omega
  obtain ⟨i2, m2', e1, e2, e3, e4, e5⟩ := h4.1 j hj0 hj
  have wj := h3.1 j hj
  have wi := h3.1 i2 (by omega)
  have li := (wi.1.2 wi.2.1)
  have lo : s_l (σ j) = s_l (σ i2) - 1 := by
    rw [e5]
    exact v_a_l (by rw [show v_a E (σ i2) m2' true = s_1 E (σ i2) m2' from rfl, ← e5]; exact wj.2.1)
  have st : v_b E x (σ i2) ≤ v_b E x (s_1 E (σ i2) m2') + 1 := v_b_step wi.2.1 li.2.1 e4 (x := x) (show v_b E x (s_1 E (σ i2) m2') < 99 by rw [← e5]; omega)
  rw [← e5] at st
  have fi := far i2 i2 (Nat.le_refl _) (by omega)
  have pi : p ≤ i2 := p3 i2 (by omega) (by omega) (by omega)
  have gj : g j ≤ g j2 := by
    by_cases q : j = j2
    · subst q
      exact Nat.le_refl _
    · exact Nat.le_of_lt (h4.2 j j2 hj0 (by omega) a2)
  have mlt2 := v_can_11 e4
  have ei : i2 = p := by omega
  subst ei
  rw [p2] at e4 e5
  have mm : v_M E x (v_q E x s0 k) ≤ m2' := m3 m2' e4 (by
    have e5 : σ j = v_a E (v_q E x s0 k) m2' true := e5
    rw [← e5]
    omega)
  have em : m2' = v_M E x (v_q E x s0 k) := by omega
  refine ⟨j, ⟨hj, ?_, fun j3 b1 b2 b3 => ?_⟩, hj0, by omega⟩
  · rw [e5, em]
    rfl
  · by_cases q : j ≤ j3
    · exact q
    · have z := l3 j3 (by omega)
      rw [show P j3 = decide (s_l (σ j3) + (k + 1) = s_l s0 ∧ v_b E x (σ j3) + (k + 1) = v_b E x s0) from rfl, decide_eq_true (⟨b2, b3⟩ : s_l (σ j3) + (k + 1) = s_l s0 ∧ v_b E x (σ j3) + (k + 1) = v_b E x s0)] at z
      cases z
/-- the places of the brief's states -/
theorem WI.path (hv : v_ok nc E) (h : WI E s0 n σ c g T F i 11) (hi : n = i + 1) (hL : v_b E x s0 < 99) : ∀ k, k < v_b E x s0 → ∃ P : Nat → Nat, P 0 = 0 ∧ w_1 E x n σ s0 k (P k) ∧ ∀ j, j < k → 0 < P (j + 1) ∧ P (j + 1) < n ∧ g (P (j + 1)) = 16 * P j + v_M E x (v_q E x s0 j) := by
  intro k
  induction k with
  | zero =>
    intro _
    exact ⟨fun _ => 0, rfl, ⟨(show 0 < n by omega), h.2.1, fun j2 _ _ _ => Nat.zero_le _⟩, fun j a => by omega⟩
  | succ k ih =>
    intro hk
    obtain ⟨P, P0, hP, hc⟩ := ih (by omega)
    obtain ⟨j, w1, j0, gj⟩ := h.step hv hi hL hk hP
    have un : ∀ a, a < k + 1 → u_f P (k + 1) j a = P a := fun a ha => u_f_n _ _ (by omega)
    refine ⟨u_f P (k + 1) j, (un 0 (by omega)).trans P0, ?_, fun a ha => ?_⟩
    · rw [u_f_e]
      exact w1
    · rw [un a ha]
      by_cases q : a = k
      · subst q
        rw [u_f_e]
        exact ⟨j0, w1.1, gj⟩
      · rw [un (a + 1) (by omega)]
        exact hc a (by omega)
/-- the brief's end -/
theorem WI.goal (hv : v_ok nc E) (h : WI E s0 n σ c g T F i 11) (hi : n = i + 1) {o : Nat} (ho : o < 20) (hL : v_b E (nI o) s0 < 99) {k p : Nat} (hk : k + 1 = v_b E (nI o) s0) (hp : w_1 E (nI o) n σ s0 k p) : F o = 16 * p + v_M E (nI o) (v_q E (nI o) s0 k) := by
  have far := h.far hv (nI o) hL
  obtain ⟨h1, h2, h3, h4, h5, h6, h7⟩ := h
  have w0 := h3.1 0 (by omega)
  rw [h2] at w0
  obtain ⟨p1, p2, p3⟩ := hp
  obtain ⟨g1, g2, g3, g4⟩ := v_q_ok hv w0.1 w0.2.1 hL k (by omega)
  obtain ⟨m1, m2, m3⟩ := v_M_ok (E := E) g2 (g1.2 g2).2.1 (x := nI o) (by omega)
  have hq : v_a E (v_q E (nI o) s0 k) (v_M E (nI o) (v_q E (nI o) s0 k)) true = s_1 E (σ p) (v_M E (nI o) (v_q E (nI o) s0 k)) := by
    rw [p2]
    rfl
  rw [hq] at m2
  have m1 : v_can E (σ p) (v_M E (nI o) (v_q E (nI o) s0 k)) = true := by
    rw [p2]
    exact m1
  have mlt := v_can_11 m1
  have hw := v_a_w hv (h3.1 p p1).1 m1 true
  have hne : ¬ s_e (s_1 E (σ p) (v_M E (nI o) (v_q E (nI o) s0 k))) = 0 := fun z => by
    have := v_b_pos (E := E) (x := nI o) z (hw.2 z).2.1
    omega
  have hu : s_u (s_1 E (σ p) (v_M E (nI o) (v_q E (nI o) s0 k))) = o := by
    rw [v_b_e hne] at m2
    by_cases e : nI (s_u (s_1 E (σ p) (v_M E (nI o) (v_q E (nI o) s0 k)))) = nI o
    · have := s_u_lt hw.1
      have l2 : s_u (s_1 E (σ p) (v_M E (nI o) (v_q E (nI o) s0 k))) < 20 := this
      exact (nI_eq (by omega) (by omega)).mp e
    · rw [if_neg e] at m2
      omega
  obtain ⟨a1, a2⟩ := (h5 p _ p1 (by omega) m1).2 hne
  rw [hu] at a1 a2
  obtain ⟨i2, m2', e1, e2, e3, e4, e5, e6⟩ := h6 o ho a1
  have wi := h3.1 i2 e2
  have li := (wi.1.2 wi.2.1)
  have vb0 : v_b E (nI o) (s_1 E (σ i2) m2') = 0 := by
    rw [v_b_e e5, e6, if_pos rfl]
  have st : v_b E (nI o) (σ i2) ≤ v_b E (nI o) (s_1 E (σ i2) m2') + 1 := v_b_step wi.2.1 li.2.1 e4 (x := nI o) (show v_b E (nI o) (s_1 E (σ i2) m2') < 99 by rw [vb0]; decide)
  have ps := v_b_pos (E := E) (x := nI o) wi.2.1 li.2.1
  have fi := far i2 i2 (Nat.le_refl _) e2
  have mlt2 := v_can_11 e4
  have ip : i2 ≤ p := by omega
  have lp := h3.2 i2 p ip p1
  rw [p2] at lp
  have pi : p ≤ i2 := p3 i2 e2 (by omega) (by omega)
  have ei : i2 = p := by omega
  subst ei
  rw [p2] at e4
  have mm := m3 m2' e4 (by
    have : v_b E (nI o) (v_a E (v_q E (nI o) s0 k) m2' true) = 0 := by
      rw [← p2]
      exact vb0
    omega)
  omega
end WALKB
