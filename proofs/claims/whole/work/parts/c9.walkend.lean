/-! the WALK: from its start to its end -/
/-- behind the walk -/
def WF (N : QM) (E : EV) (w : Nat) (s0 : ST) : Prop := ∃ n σ c g T F, WM N E w n σ c g T F ∧ n ≤ 4096 ∧ ((s_e s0 = 0 ∧ q_i N 6 8 = nI 0 ∧ 0 < n ∧ WI E s0 n σ c g T F (n - 1) 11) ∨ (¬ s_e s0 = 0 ∧ q_i N 6 8 = nI 1 ∧ ∀ o, o < 20 → T o = v_W E (nI o) s0))
def SX (a j : Nat) : Prop := SA a j ∨ a = 6
theorem SX_5 {a j : Nat} (h : SX a j) : S5 a j := by
  unfold SX SA at h
  unfold S5 S1
  omega
theorem SW_X {a j : Nat} (h : SW a j) : SX a j := by
  rcases h with h | h
  · exact Or.inl h
  · exact Or.inr h.1
section WALKE
variable {nc c0 c1 a w n i : Nat} {E : EV} {M : QM} {s s0 : ST} {σ : Nat → ST} {c g T F : Nat → Nat}
theorem WF.way (hv : v_ok nc E) (h : WF M E w s0) {o : Nat} (ho : o < 20) : q_l M 6 4 o = lN (v_W E (nI o) s0) := by
  obtain ⟨n, σ, c, g, T, F, wm, hn, hh⟩ := h
  rw [(wm.2.2.2.1 o ho).1]
  rcases hh with ⟨h0, h8, hn0, wi⟩ | ⟨h0, h8, hT⟩
  · rw [wi.fin (by omega) ho]
  · rw [hT o ho]
theorem WF.mk (h : WF M E w s0) : MW M w := by
  obtain ⟨n, σ, c, g, T, F, wm, hn, hh⟩ := h
  exact ⟨wm.1, fun i hi => by
    obtain ⟨b, hb, e, -⟩ := wm.2.2.2.2.1.1 i hi
    exact ⟨b, hb, e⟩⟩
theorem WM.in8 (h : WM M E w n σ c g T F) (v : Int32) : WM (p_i M 6 8 v) E w n σ c g T F := by
  obtain ⟨h1, h2, h3, h4, h5, h6⟩ := h
  refine ⟨?_, ?_, fun j a => ?_, fun o a => ?_, ⟨fun p a => ?_, fun j a => ?_⟩, h6⟩
  · simp only [y_ii, y_ia, y_il, y_ir, y_ai, y_aa, y_al, y_ar, y_li, y_la, y_ll, y_lr, y_ri, y_ra, y_rl, y_rr, and_true, true_and, and_false, false_and, and_self, if_true, if_false, Nat.reduceEqDiff, reduceCtorEq, or_false, false_or, or_true, true_or]
    exact h1
  · simp only [y_ii, y_ia, y_il, y_ir, y_ai, y_aa, y_al, y_ar, y_li, y_la, y_ll, y_lr, y_ri, y_ra, y_rl, y_rr, and_true, true_and, and_false, false_and, and_self, if_true, if_false, Nat.reduceEqDiff, reduceCtorEq, or_false, false_or, or_true, true_or]
    exact h2
  · simp only [y_ii, y_ia, y_il, y_ir, y_ai, y_aa, y_al, y_ar, y_li, y_la, y_ll, y_lr, y_ri, y_ra, y_rl, y_rr, and_true, true_and, and_false, false_and, and_self, if_true, if_false, Nat.reduceEqDiff, reduceCtorEq, or_false, false_or, or_true, true_or]
    exact h3 j a
  · simp only [y_ii, y_ia, y_il, y_ir, y_ai, y_aa, y_al, y_ar, y_li, y_la, y_ll, y_lr, y_ri, y_ra, y_rl, y_rr, and_true, true_and, and_false, false_and, and_self, if_true, if_false, Nat.reduceEqDiff, reduceCtorEq, or_false, false_or, or_true, true_or]
    exact h4 o a
  · simp only [y_ii, y_ia, y_il, y_ir, y_ai, y_aa, y_al, y_ar, y_li, y_la, y_ll, y_lr, y_ri, y_ra, y_rl, y_rr, and_true, true_and, and_false, false_and, and_self, if_true, if_false, Nat.reduceEqDiff, reduceCtorEq, or_false, false_or, or_true, true_or]
    exact h5.1 p a
  · simp only [y_ii, y_ia, y_il, y_ir, y_ai, y_aa, y_al, y_ar, y_li, y_la, y_ll, y_lr, y_ri, y_ra, y_rl, y_rr, and_true, true_and, and_false, false_and, and_self, if_true, if_false, Nat.reduceEqDiff, reduceCtorEq, or_false, false_or, or_true, true_or]
    exact h5.2 j a
theorem sX10_go_b17 {x : Int32} : ∀ (d o f : Nat) (M : QM), o + d = 20 → d < f → (∀ k, k < o → q_l M 6 4 k = lN 0 ∧ q_a M 6 5 k = nI 0) → ∃ N, fX10_go_b17 f M x (nI o) = fX10_go_b43 N x ∧ kp (fun a j => a = 6 ∧ (j = 4 ∨ j = 5)) M N ∧ ∀ k, k < 20 → q_l N 6 4 k = lN 0 ∧ q_a N 6 5 k = nI 0 := by
  intro d
  induction d with
  | zero =>
    intro o f M ho hf h
    obtain ⟨f, rfl⟩ : ∃ p, f = p + 1 := ⟨f - 1, by omega⟩
    have e : o = 20 := ho
    subst e
    refine ⟨M, ?_, kp.rf, h⟩
    rw [fX10_go_b17]
    simp (disch := omega) only [y_lit, y_lt_T, y_lt_F, y_le_T, y_le_F, y_eq_T, y_eq_F, y_in_T, y_cl, ↓reduceIte, y_bs, y_bvs, y_os, y_on, y_t, ne_eq, not_true_eq_false, not_false_eq_true, pk_mul, nI_add]
  | succ d ih =>
    intro o f M ho hf h
    obtain ⟨f, rfl⟩ : ∃ p, f = p + 1 := ⟨f - 1, by omega⟩
    obtain ⟨N, e1, k1, h1⟩ := ih (o + 1) f (p_a (p_l M 6 4 o (lN 0)) 6 5 o (nI 0)) (by omega) (by omega) (fun k hk => by
      by_cases q : k = o
      · subst q
        simp only [y_ii, y_ia, y_il, y_ir, y_ai, y_aa, y_al, y_ar, y_li, y_la, y_ll, y_lr, y_ri, y_ra, y_rl, y_rr, and_true, true_and, and_false, false_and, and_self, if_true, if_false, Nat.reduceEqDiff, reduceCtorEq, or_false, false_or, or_true, true_or]
      · simp only [y_ii, y_ia, y_il, y_ir, y_ai, y_aa, y_al, y_ar, y_li, y_la, y_ll, y_lr, y_ri, y_ra, y_rl, y_rr, and_true, true_and, and_false, false_and, and_self, if_true, if_false, Nat.reduceEqDiff, reduceCtorEq, or_false, false_or, or_true, true_or, q]
        exact h k (by omega))
    refine ⟨N, ?_, (kp.tr (kp_l ⟨rfl, Or.inl rfl⟩) (kp_a ⟨rfl, Or.inr rfl⟩)).tr k1, h1⟩
    rw [fX10_go_b17]
    simp (disch := omega) only [y_lit, y_lt_T, y_lt_F, y_le_T, y_le_F, y_eq_T, y_eq_F, y_in_T, y_cl, ↓reduceIte, y_bs, y_bvs, y_os, y_on, y_t, ne_eq, not_true_eq_false, not_false_eq_true, pk_mul, nI_add, y_lit64]
    exact e1
theorem sX10_go (hv : v_ok nc E) (A : AF M E c0 c1) (mA : MA M a) (ha : a < 2000000000) (hW : MW M w) (hw : w < 90000) (hs : v_w E s0) : qV (fX10_go M (s_p s0)) (fun N => WF N E (w + 1) s0 ∧ AF N E c0 c1 ∧ MA N a ∧ kp SX M N) := by
  obtain ⟨N, e, k1, h1⟩ := sX10_go_b17 (x := s_p s0) 20 0 q_F (p_i (p_i M 6 7 (nI (w + 1))) 6 6 (nI 0)) (by decide) (q_Fn (by decide)) (fun k hk => by omega)
  have k2 : kp S6 M N := ((kp_i ⟨rfl, by decide⟩).tr (kp_i ⟨rfl, by decide⟩)).tr (k1.wd (fun x j z => ⟨z.1, by omega⟩))
  have n7 : ¬ ((6 : Nat) = 6 ∧ (7 = 4 ∨ 7 = 5)) := by decide
  have f : fX10_go M (s_p s0) = fX10_go_b43 N (s_p s0) := by
    unfold fX10_go
    simp (disch := omega) only [y_lit, y_lt_T, y_lt_F, y_le_T, y_le_F, y_eq_T, y_eq_F, y_in_T, y_cl, ↓reduceIte, y_bs, y_bvs, y_os, y_on, y_t, ne_eq, not_true_eq_false, not_false_eq_true, pk_mul, nI_add, hW.1]
    exact e
  rw [f]
  have wm : WM N E (w + 1) 0 (fun _ => s0) (fun _ => 0) (fun _ => 0) (fun _ => 0) (fun _ => 0) := by
    refine ⟨?_, ?_, fun j a => by omega, h1, ⟨fun p hp => ?_, fun j a => by omega⟩, fun j a => by omega⟩
    · rw [k1.i n7]
      simp only [y_ii, y_ia, y_il, y_ir, y_ai, y_aa, y_al, y_ar, y_li, y_la, y_ll, y_lr, y_ri, y_ra, y_rl, y_rr, and_true, true_and, and_false, false_and, and_self, if_true, if_false, Nat.reduceEqDiff, reduceCtorEq, or_false, false_or, or_true, true_or]
    · rw [k1.i (by decide)]
      simp only [y_ii, y_ia, y_il, y_ir, y_ai, y_aa, y_al, y_ar, y_li, y_la, y_ll, y_lr, y_ri, y_ra, y_rl, y_rr, and_true, true_and, and_false, false_and, and_self, if_true, if_false, Nat.reduceEqDiff, reduceCtorEq, or_false, false_or, or_true, true_or]
    · obtain ⟨b, hb, eb⟩ := hW.2 p hp
      refine ⟨b, by omega, ?_, fun z => by omega⟩
      rw [k1.a (by decide)]
      simp only [y_ii, y_ia, y_il, y_ir, y_ai, y_aa, y_al, y_ar, y_li, y_la, y_ll, y_lr, y_ri, y_ra, y_rl, y_rr, and_true, true_and, and_false, false_and, and_self, if_true, if_false, Nat.reduceEqDiff, reduceCtorEq, or_false, false_or, or_true, true_or]
      exact eb
  have AN := A.s6 k2
  have mN := mA.s6 k2
  have he : s_e s0 < 5 := hs.1.2.2.2.2.2.1
  have k8 : ∀ v, kp (fun x j => x = 6 ∧ j = 8) N (p_i N 6 8 v) := fun v => kp_i ⟨rfl, rfl⟩
  have A8 : ∀ v, AF (p_i N 6 8 v) E c0 c1 := fun v => AN.kept (k8 v) (fun x j z => Or.inr (Or.inl z.1))
  have m8 : ∀ v, MA (p_i N 6 8 v) a := fun v => mN.kept (k8 v) (by decide) (by decide)
  have w5 : ∀ x j, (x = 6 ∧ j = 8) → SX x j := fun x j z => Or.inr z.1
  have s65 : ∀ x j, S6 x j → SX x j := fun x j z => Or.inr z.1
  by_cases c : s_e s0 = 0
  · obtain ⟨N2, e2, wm2, k3⟩ := sX10_arrive_new hv (wm.in8 (nI 0)) (by omega) (by decide) hs c (fun k hk => by omega) 1 0
    obtain ⟨N3, e3, n3, s3, W3, n30, k4⟩ := sX10_go_b86 (s0 := s0) hv ha (show w + 1 < 100000 by omega) hs c 4096 0 q_F 1 N2 (by decide) (q_Fn (by decide)) ⟨s0, by decide, _, _, _, _, _, u_f_e _ _ _, wm2, WI.init hs c (fun _ _ => rfl) (u_f_e _ _ _) (u_f_e _ _ _), (A8 _).s6 k3, (m8 _).s6 k3⟩
    obtain ⟨hn3, σ, c2, g, T, F, hσ, wm3, wi3, A3, m3⟩ := W3
    refine ⟨N3, ?_, ⟨n3, σ, c2, g, T, F, wm3, hn3, Or.inl ⟨c, ?_, n30, wi3⟩⟩, A3, m3, (((k2.wd s65).tr ((k8 _).wd w5)).tr (k3.wd s65)).tr (k4.wd (fun x j z => SW_X z))⟩
    · unfold fX10_go_b43 fX10_go_b56
      rw [sX7_ending N hs.1]
      simp (disch := omega) only [y_lit, y_lt_T, y_lt_F, y_le_T, y_le_F, y_eq_T, y_eq_F, y_in_T, y_cl, ↓reduceIte, y_bs, y_bvs, y_os, y_on, y_t, ne_eq, not_true_eq_false, not_false_eq_true, pk_mul, nI_add, y_ii, y_ia, y_il, y_ir, y_ai, y_aa, y_al, y_ar, y_li, y_la, y_ll, y_lr, y_ri, y_ra, y_rl, y_rr, and_true, true_and, and_false, false_and, and_self, if_true, if_false, Nat.reduceEqDiff, reduceCtorEq, or_false, false_or, or_true, true_or, y_lit64]
      rw [if_pos (show q_z (nI 0) by decide)]
      rw [e2, q_bv_s]
      exact e3
    · rw [k4.i (by unfold SW SA; omega), k3.i (by unfold S6; omega)]
      simp only [y_ii, y_ia, y_il, y_ir, y_ai, y_aa, y_al, y_ar, y_li, y_la, y_ll, y_lr, y_ri, y_ra, y_rl, y_rr, and_true, true_and, and_false, false_and, and_self, if_true, if_false, Nat.reduceEqDiff, reduceCtorEq, or_false, false_or, or_true, true_or]
  · have hu := s_u_lt hs.1
    obtain ⟨N2, e2, wm2, k3⟩ := sX10_reach (wm.in8 (nI 1)) hu (show (0 : Nat) < 2147483648 by decide) 1 0
    refine ⟨N2, ?_, ⟨0, _, _, _, _, _, wm2, by decide, Or.inr ⟨c, ?_, fun o ho => ?_⟩⟩, (A8 _).s6 k3, (m8 _).s6 k3, ((k2.wd s65).tr ((k8 _).wd w5)).tr (k3.wd s65)⟩
    · unfold fX10_go_b43 fX10_go_b56
      rw [sX7_ending N hs.1]
      simp (disch := omega) only [y_lit, y_lt_T, y_lt_F, y_le_T, y_le_F, y_eq_T, y_eq_F, y_in_T, y_cl, ↓reduceIte, y_bs, y_bvs, y_os, y_on, y_t, ne_eq, not_true_eq_false, not_false_eq_true, pk_mul, nI_add, y_ii, y_ia, y_il, y_ir, y_ai, y_aa, y_al, y_ar, y_li, y_la, y_ll, y_lr, y_ri, y_ra, y_rl, y_rr, and_true, true_and, and_false, false_and, and_self, if_true, if_false, Nat.reduceEqDiff, reduceCtorEq, or_false, false_or, or_true, true_or, y_lit64]
      rw [if_pos (show q_z (nI 1) by decide)]
      rw [sX7_outcome _ hs.1, q_b_s, e2, q_bv_s]
    · rw [k3.i (by unfold S6; omega)]
      simp only [y_ii, y_ia, y_il, y_ir, y_ai, y_aa, y_al, y_ar, y_li, y_la, y_ll, y_lr, y_ri, y_ra, y_rl, y_rr, and_true, true_and, and_false, false_and, and_self, if_true, if_false, Nat.reduceEqDiff, reduceCtorEq, or_false, false_or, or_true, true_or]
    · rw [v_W_e c]
      by_cases q : o = s_u s0
      · subst q
        rw [u_f_e, if_pos rfl]
      · rw [u_f_n _ _ q, if_neg (fun z => q ((nI_eq (by omega) (by omega)).mp z).symm)]
theorem sX10_waysTo (hv : v_ok nc E) (h : WF M E w s0) {o : Nat} (ho : o < 20) : fX10_waysTo M (nI o) = some (lN (v_W E (nI o) s0), M) := by
  have e := h.way hv ho
  unfold fX10_waysTo
  simp (disch := omega) only [y_lit, y_lt_T, y_lt_F, y_le_T, y_le_F, y_eq_T, y_eq_F, y_in_T, y_cl, ↓reduceIte, y_bs, y_bvs, y_os, y_on, y_t, ne_eq, not_true_eq_false, not_false_eq_true, pk_mul, nI_add, e]
theorem v_W_31 (hv : v_ok nc E) (x : Int32) (hs : v_w E s) : v_W E x s < 2147483648 := by
  by_cases c : s_e s = 0
  · have := v_W_b hv x hs c
    omega
  · rw [v_W_e c]
    split <;> decide
def w_E (E : EV) (s : ST) (o : Nat) : Bool := decide (v_W E (nI o) s ≠ 0)
theorem w_E_ok (hv : v_ok nc E) (hs : v_w E s) : o_O (w_E E s) (fun o => 2 ^ o) 20 = v_E E s := by
  apply Nat.eq_of_testBit_eq
  intro u
  by_cases hu : u < 20
  · have h1 := v_EW hv hu (s_l s) s (Nat.le_refl _) hs
    by_cases c : v_W E (nI u) s = 0
    · rw [h1.mpr c, o_O_0]
      intro m hm hp
      rw [Nat.testBit_two_pow]
      by_cases q : m = u
      · subst q
        exact absurd c (of_decide_eq_true hp)
      · exact decide_eq_false q
    · have h2 : (v_E E s).testBit u = true := by
        cases e : (v_E E s).testBit u with
        | true => rfl
        | false => exact absurd (h1.mp e) c
      rw [h2]
      exact o_O_bit (f := fun o => 2 ^ o) (show w_E E s u = true from decide_eq_true c) (by rw [Nat.testBit_two_pow]; exact decide_eq_true rfl) 20 hu
  · have h1 := v_E_lt hv (s_l s) s (Nat.le_refl _) hs
    rw [Nat.testBit_lt_two_pow (Nat.lt_of_lt_of_le h1 (Nat.pow_le_pow_right (by decide) (by omega))), o_O_0]
    intro m hm _
    rw [Nat.testBit_two_pow]
    exact decide_eq_false (by omega)
theorem sX10_outcomes (hv : v_ok nc E) (hs : v_w E s0) (h : WF M E w s0) : fX10_outcomes M = some (nI (v_E E s0), M) := by
  have loop : ∀ (d o f : Nat), o + d = 20 → d < f → fX10_outcomes_b4 f M (nI (o_O (w_E E s0) (fun o => 2 ^ o) o)) (nI o) = some (nI (o_O (w_E E s0) (fun o => 2 ^ o) 20), M) := by
    intro d
    induction d with
    | zero =>
      intro o f ho hf
      obtain ⟨f, rfl⟩ : ∃ p, f = p + 1 := ⟨f - 1, by omega⟩
      have e : o = 20 := ho
      subst e
      rw [fX10_outcomes_b4]
      simp (disch := omega) only [y_lit, y_lt_T, y_lt_F, y_le_T, y_le_F, y_eq_T, y_eq_F, y_in_T, y_cl, ↓reduceIte, y_bs, y_bvs, y_os, y_on, y_t, ne_eq, not_true_eq_false, not_false_eq_true, pk_mul, nI_add]
    | succ d ih =>
      intro o f ho hf
      obtain ⟨f, rfl⟩ : ∃ p, f = p + 1 := ⟨f - 1, by omega⟩
      have nx := ih (o + 1) f (by omega) (by omega)
      have e := h.way hv (o := o) (by omega)
      have hb := v_W_31 hv (nI o) hs
      rw [o_O] at nx
      rw [fX10_outcomes_b4]
      by_cases c : v_W E (nI o) s0 = 0
      · rw [if_neg (show ¬ w_E E s0 o = true from fun z => absurd c (of_decide_eq_true z))] at nx
        rw [c] at e
        simp (disch := omega) only [y_lit, y_lt_T, y_lt_F, y_le_T, y_le_F, y_eq_T, y_eq_F, y_in_T, y_cl, ↓reduceIte, y_bs, y_bvs, y_os, y_on, y_t, ne_eq, not_true_eq_false, not_false_eq_true, pk_mul, nI_add, e, y_lit64, y_cmp0, fX10_outcomes_b27]
        exact nx
      · rw [if_pos (show w_E E s0 o = true from decide_eq_true c)] at nx
        simp (disch := omega) only [y_lit, y_lt_T, y_lt_F, y_le_T, y_le_F, y_eq_T, y_eq_F, y_in_T, y_cl, ↓reduceIte, y_bs, y_bvs, y_os, y_on, y_t, ne_eq, not_true_eq_false, not_false_eq_true, pk_mul, nI_add, e, y_lit64, y_cmp1, fX10_outcomes_b27, y_b31, nI_or]
        exact nx
  unfold fX10_outcomes
  rw [nI0, ← w_E_ok hv hs]
  exact loop 20 0 q_F (by decide) (q_Fn (by decide))
end WALKE
