/-! pairs: game, must, late -/
def MW (M : QM) (w : Nat) : Prop := q_i M 6 7 = nI w ∧ ∀ i, i < 4096 → ∃ b, b < 4096 * (w + 1) ∧ q_a M 6 3 i = nI b
/-- the marks after k calls -/
def MK (M : QM) (k : Nat) : Prop := (∃ a, a ≤ k ∧ MA M a) ∧ (∃ g, g ≤ 500 * k ∧ MG M g) ∧ ∃ w, w ≤ k ∧ MW M w
theorem MG.kept {M N : QM} {g : Nat} (h : MG M g) {S : Nat → Nat → Prop} (k : kp S M N) (h5 : ∀ j, ¬ S 5 j) : MG N g :=
  ⟨(k.i (h5 _)).trans h.1, fun i hi => by rw [k.a (h5 _)]; exact h.2 i hi⟩
theorem MW.kept {M N : QM} {g : Nat} (h : MW M g) {S : Nat → Nat → Prop} (k : kp S M N) (h6 : ∀ j, ¬ S 6 j) : MW N g :=
  ⟨(k.i (h6 _)).trans h.1, fun i hi => by rw [k.a (h6 _)]; exact h.2 i hi⟩
/-- two calls that only look, all marks told -/
def LG {α : Type} (M1 M2 : QM) (k : Nat) (A A2 : Option (α × QM)) : Prop := ∃ r N1 N2, A = some (r, N1) ∧ A2 = some (r, N2) ∧ kp S5 M1 N1 ∧ kp S2 M2 N2 ∧ MK N1 (k + 1)
theorem MK.up {M : QM} {k : Nat} (h : MK M k) : MK M (k + 1) := by
  obtain ⟨⟨a, h1, h2⟩, ⟨g, h3, h4⟩, w, h5, h6⟩ := h
  exact ⟨⟨a, by omega, h2⟩, ⟨g, by omega, h4⟩, w, by omega, h6⟩
theorem S1_5 {a j : Nat} (h : S1 a j) : S5 a j := Or.inl h
theorem S1_no {j : Nat} : (¬ S1 5 j) ∧ ¬ S1 6 j := by
  unfold S1
  omega
/-- behind calls whose affair's mark is told -/
theorem LK.up {M1 M2 : QM} {k : Nat} {A A2 : Option (Int32 × QM)} (hM : MK M1 k) (h : ∀ a, MA M1 a → a ≤ k → LK M1 M2 a A A2) : LG M1 M2 k A A2 := by
  obtain ⟨⟨a, h1, h2⟩, ⟨g, h3, h4⟩, w, h5, h6⟩ := hM
  obtain ⟨r, N1, N2, e1, e2, k1, k2, b, hb, mb⟩ := h a h2 h1
  exact ⟨r, N1, N2, e1, e2, k1.wd (fun x j z => S1_5 z), k2, ⟨b, by omega, mb⟩, ⟨g, by omega, h4.kept k1 (fun j => S1_no.1)⟩, w, by omega, h6.kept k1 (fun j => S1_no.2)⟩
section PAIRG
variable {nc k : Nat} {M M1 M2 : QM} {B : BK} {Cs : Nat → CD}
theorem sX12_worksFrom (h : K2 M nc B Cs) (ok : KO nc B Cs) {q : Nat} (hq : q < b_q B) (x : Int32) : ∃ N2, kp S2 M N2 ∧ ((s_e (r_now (b_r B q)) = 0 ∧ fX12_worksFrom M (nI q) x = some (nI (s_pl (r_now (b_r B q))), N2) ∧ WK N2 (eQ B Cs (b_r B q)) x (s_pl (r_now (b_r B q))) ∧ PY N2 (eQ B Cs (b_r B q)) (r_c (b_r B q) 0) (r_c (b_r B q) 1)) ∨ (¬ s_e (r_now (b_r B q)) = 0 ∧ fX12_worksFrom M (nI q) x = some (-nI 1, N2) ∧ RST N2 (r_now (b_r B q)))) := by
  have hQ := ok.q hq
  have hv := ok.v hQ.b
  have hw : v_w (eQ B Cs (b_r B q)) (r_now (b_r B q)) := (ok.2.2.2 q hq).w ok hQ (by have := hQ.2.2.2.2.2.2.1; omega)
  have he : s_e (r_now (b_r B q)) < 5 := hw.1.2.2.2.2.2.1
  obtain ⟨N, e, P, R, k1⟩ := sX12_loadLast h ok hq
  by_cases c : s_e (r_now (b_r B q)) = 0
  · obtain ⟨⟨r, N2⟩, f, g1, g2, g3, g4⟩ := sX12_fresh hv P hw c x (f := fun M14 => some (nI (s_pl (r_now (b_r B q))), M14)) (Q := fun y => y.1 = nI (s_pl (r_now (b_r B q))) ∧ WK y.2 (eQ B Cs (b_r B q)) x (s_pl (r_now (b_r B q))) ∧ PY y.2 (eQ B Cs (b_r B q)) (r_c (b_r B q) 0) (r_c (b_r B q) 1) ∧ kp SV N y.2) (fun N2 W P2 k2 => ⟨_, rfl, rfl, W, P2, k2⟩)
    have g1 : r = nI (s_pl (r_now (b_r B q))) := g1
    subst g1
    refine ⟨N2, k1.tr (g4.wd (fun a j z => SV_2 z)), Or.inl ⟨c, ?_, g2, g3⟩⟩
    unfold fX12_worksFrom
    rw [e, q_bv_s, R.2.2.2.2.1, if_pos (show nI (s_e (r_now (b_r B q))) ≤ 0 by rw [c]; decide), sX12_place R hw.1 c, q_b_s]
    exact f
  · refine ⟨N, k1, Or.inr ⟨c, ?_, R⟩⟩
    unfold fX12_worksFrom
    rw [e, q_bv_s, R.2.2.2.2.1, if_neg (show ¬ nI (s_e (r_now (b_r B q))) ≤ 0 from nI_nle (by omega) (by omega))]
    rfl
theorem pair_game (h1 : K1 M1 nc B Cs) (h2 : K2 M2 nc B Cs) (ok : KO nc B Cs) (hM : MK M1 k) (hk : k < 1000) (x y : Int32) : LG M1 M2 k (fX11_game M1 x y) (fX12_game M2 x y) := by
  have h24 := ok.1.2.1
  have no : fX11_game M1 x y = some (-nI 1, M1) → fX12_game M2 x y = some (-nI 1, M2) → LG M1 M2 k (fX11_game M1 x y) (fX12_game M2 x y) := fun e1 e2 => ⟨_, _, _, e1, e2, kp.rf, kp.rf, hM.up⟩
  rcases q_out_or x (n := b_q B) (by omega) with ox | ⟨q, hq, rfl⟩
  · refine no ?_ ?_
    · unfold fX11_game
      rw [sX1_quarrelAtO h1.1 ox, q_b_s, q_o_n]
      rfl
    · unfold fX12_game
      rw [sX12_isQuarrelO h2.1 ox, q_b_s, if_pos rfl]
      rfl
  have g1 := sX1_quarrelAt h1.1 h24 hq
  have g2 := sX12_isQuarrel h2.1 h24 hq
  rcases q_out_or y (n := 2) (by decide) with o | ⟨w, hw2, rfl⟩
  · have z1 : fX11_isWithin M1 y 0 1 = some (0, M1) := w_out M1 (show 1 < 1000000 by decide) o
    have z2 : fX12_in M2 (Int32.toInt64 y) 0 1 = some (0, M2) := v_out M2 (show 1 < 1000000 by decide) o
    refine no ?_ ?_
    · unfold fX11_game
      rw [g1, q_b_s, q_o_s, if_pos (kls_q (by omega)), z1, q_b_s, if_neg (by decide)]
      rfl
    · unfold fX12_game
      rw [g2, q_b_s, if_neg (by decide), z2, q_b_s, if_neg (by decide)]
      rfl
  have y1 : fX11_isWithin M1 (nI w) 0 1 = some (1, M1) := w_in M1 (n := 1) (k := w) (by decide) (by omega)
  have y2 : fX12_in M2 (Int32.toInt64 (nI w)) 0 1 = some (1, M2) := v_in M2 (n := 1) (k := w) (by decide) (by omega)
  have hQ := ok.q hq
  have hR := h1.1.2.2.2 q hq
  have hv := ok.v hQ.b
  have hw : v_w (eQ B Cs (b_r B q)) (r_now (b_r B q)) := (ok.2.2.2 q hq).w ok hQ (by have := hQ.2.2.2.2.2.2.1; omega)
  have he : s_e (r_now (b_r B q)) < 5 := hw.1.2.2.2.2.2.1
  have eo : el 20 5 q = 100 + q := by rw [el_qN (by decide)]
  obtain ⟨⟨a, ha, hA⟩, ⟨g, hg, hG⟩, v, hv2, hW⟩ := hM
  obtain ⟨N1, e1, A1, m1, k1⟩ := sX11_study h1 ok hR hQ.b hA (by omega)
  have hRN : RQ1 N1 (el 20 5 q) (b_r B q) := hR.kept k1 (fun j z => by unfold SS at z; omega)
  obtain ⟨N2, e2, G2, k2⟩ := sX3_begin (hG.kept k1 (fun j z => by unfold SS at z; omega)) (by omega) (eQ B Cs (b_r B q))
  have A2 := A1.kept k2 (fun x j z => Or.inl z.1)
  have m2 := m1.kept k2 (by decide) (by decide)
  have W2 := (hW.kept k1 (fun j z => by unfold SS at z; omega)).kept k2 (fun j z => by omega)
  have f1 : fX11_game M1 (nI q) (nI w) = if nI w ≠ (0 : Int32) then (q_b (fX7_ending N2 (s_p (r_now (b_r B q)))) fun r19 M20 => if r19 ≠ (0 : Int32) then some ((-1 : Int32), M20) else (q_b (fX3_moveFrom M20 (s_p (r_now (b_r B q)))) fun r22 M23 => some (r22, M23))) else (q_b (fX3_outcomeFrom N2 (s_p (r_now (b_r B q)))) fun r26 M27 => some (r26, M27)) := by
    unfold fX11_game
    rw [g1, q_b_s, q_o_s, if_pos (kls_q (by omega)), y1, q_b_s, if_pos (by decide), e1, q_bv_s, sX4_now hRN hQ, q_b_s, e2, q_bv_s]
  have fin : ∀ (r : Int32) (P1 P2 : QM), fX11_game M1 (nI q) (nI w) = some (r, P1) → fX12_game M2 (nI q) (nI w) = some (r, P2) → kp SG N2 P1 → kp S2 M2 P2 → MA P1 (a + 1) → GA P1 (eQ B Cs (b_r B q)) (g + 1) → LG M1 M2 k (fX11_game M1 (nI q) (nI w)) (fX12_game M2 (nI q) (nI w)) := fun r P1 P2 a1 a2 k3 k4 mm GG =>
    ⟨r, P1, P2, a1, a2, ((k1.wd (fun x j z => S1_5 (SS_1 z))).tr (k2.wd (fun x j z => Or.inr (Or.inl z.1)))).tr (k3.wd (fun x j z => SG_5 z)), k4, ⟨a + 1, by omega, mm⟩, ⟨g + 1, by omega, GG.m⟩, v, by omega, W2.kept k3 (fun j z => by unfold SG SA at z; omega)⟩
  obtain ⟨P2, kP, hP⟩ := sX12_worksFrom h2 ok hq (-1)
  have f2 : ∀ (r : Int32), fX12_worksFrom M2 (nI q) (-1) = some (r, P2) → fX12_game M2 (nI q) (nI w) = if (0 : Int32) ≤ r then if nI w ≠ (0 : Int32) then (if q_in r 13824 then some (q_a P2 1000 38 r.toNatClampNeg, P2) else none) else (if q_in r 13824 then some (q_a P2 1000 37 r.toNatClampNeg, P2) else none) else if nI w ≠ (0 : Int32) then some ((-1 : Int32), P2) else (q_b (fX12_outcome P2) fun r14 M15 => some (r14, M15)) := fun r er => by
    unfold fX12_game
    rw [g2, q_b_s, if_neg (by decide), y2, q_b_s, if_pos (by decide), er, q_b_s]
  have hw01 : w = 0 ∨ w = 1 := by omega
  have hh := v_h_le hv
  rcases hP with ⟨c, eW, W, PN⟩ | ⟨c, eW, R⟩
  · have wl := hw.2 c
    have hb := s_pl_b hw.1
    have f2 := f2 _ eW
    have vv := WK.at W hw c rfl
    unfold VA1 at vv
    rw [s_up_pl hw.1 c wl.1] at vv
    simp (disch := omega) only [y_lit, y_lt_T, y_lt_F, y_le_T, y_le_F, y_eq_T, y_eq_F, y_in_T, y_cl, ↓reduceIte, y_bs, y_bvs, y_os, y_on, y_t, ne_eq, not_true_eq_false, not_false_eq_true, pk_mul, nI_add, vv.1, vv.2.1] at f1 f2
    rcases hw01 with e | e
    · subst e
      obtain ⟨_, Q1, d1, rfl, A3, m3, G3, k3⟩ := sX3_outcomeFrom hv (by omega) (by omega) hw A2 m2 G2
      simp (disch := omega) only [y_lit, y_lt_T, y_lt_F, y_le_T, y_le_F, y_eq_T, y_eq_F, y_in_T, y_cl, ↓reduceIte, y_bs, y_bvs, y_os, y_on, y_t, ne_eq, not_true_eq_false, not_false_eq_true, pk_mul, nI_add] at f1 f2
      rw [d1, q_b_s] at f1
      exact fin _ Q1 P2 f1 f2 k3 kP m3 G3
    · subst e
      obtain ⟨_, Q1, d1, rfl, A3, m3, G3, k3⟩ := sX3_moveFrom hv (by omega) (by omega) hw A2 m2 G2
      rw [sX7_ending N2 hw.1] at f1
      simp (disch := omega) only [y_lit, y_lt_T, y_lt_F, y_le_T, y_le_F, y_eq_T, y_eq_F, y_in_T, y_cl, ↓reduceIte, y_bs, y_bvs, y_os, y_on, y_t, ne_eq, not_true_eq_false, not_false_eq_true, pk_mul, nI_add] at f1 f2
      rw [d1, q_b_s] at f1
      exact fin _ Q1 P2 f1 f2 k3 kP m3 G3
  · have f2 := f2 _ eW
    rw [sX12_outcome R] at f2
    simp (disch := omega) only [y_lit, y_lt_T, y_lt_F, y_le_T, y_le_F, y_eq_T, y_eq_F, y_in_T, y_cl, ↓reduceIte, y_bs, y_bvs, y_os, y_on, y_t, ne_eq, not_true_eq_false, not_false_eq_true, pk_mul, nI_add, m1_le] at f1 f2
    rcases hw01 with e | e
    · subst e
      obtain ⟨_, Q1, d1, rfl, A3, m3, G3, k3⟩ := sX3_outcomeFrom hv (by omega) (by omega) hw A2 m2 G2
      simp (disch := omega) only [y_lit, y_lt_T, y_lt_F, y_le_T, y_le_F, y_eq_T, y_eq_F, y_in_T, y_cl, ↓reduceIte, y_bs, y_bvs, y_os, y_on, y_t, ne_eq, not_true_eq_false, not_false_eq_true, pk_mul, nI_add] at f1 f2
      rw [d1, q_b_s, v_G_e c] at f1
      exact fin _ Q1 P2 f1 f2 k3 kP m3 G3
    · subst e
      rw [sX7_ending N2 hw.1] at f1
      simp (disch := omega) only [y_lit, y_lt_T, y_lt_F, y_le_T, y_le_F, y_eq_T, y_eq_F, y_in_T, y_cl, ↓reduceIte, y_bs, y_bvs, y_os, y_on, y_t, ne_eq, not_true_eq_false, not_false_eq_true, pk_mul, nI_add] at f1 f2
      exact fin _ N2 P2 f1 f2 kp.rf kP m2 G2
theorem sX11_mustMeet (M : QM) {s : ST} (hs : s_ok s) : fX11_mustMeet M (s_p s) = some (nI (if s_e s = 2 then 1 else 0), M) := by
  have he : s_e s < 5 := hs.2.2.2.2.2.1
  unfold fX11_mustMeet
  rw [sX7_ending M hs]
  by_cases c : s_e s = 2
  · simp (disch := omega) only [y_lit, y_lt_T, y_lt_F, y_le_T, y_le_F, y_eq_T, y_eq_F, y_in_T, y_cl, ↓reduceIte, y_bs, y_bvs, y_os, y_on, y_t, ne_eq, not_true_eq_false, not_false_eq_true, pk_mul, nI_add, c, if_true]
  · simp (disch := omega) only [y_lit, y_lt_T, y_lt_F, y_le_T, y_le_F, y_eq_T, y_eq_F, y_in_T, y_cl, ↓reduceIte, y_bs, y_bvs, y_os, y_on, y_t, ne_eq, not_true_eq_false, not_false_eq_true, pk_mul, nI_add, c, if_false]
theorem pair_must (h1 : K1 M1 nc B Cs) (h2 : K2 M2 nc B Cs) (ok : KO nc B Cs) (hM : MK M1 k) (x : Int32) : LG M1 M2 k (fX11_must M1 x) (fX12_must M2 x) := by
  have h24 := ok.1.2.1
  rcases q_out_or x (n := b_q B) (by omega) with ox | ⟨q, hq, rfl⟩
  · refine ⟨-nI 1, M1, M2, ?_, ?_, kp.rf, kp.rf, hM.up⟩
    · unfold fX11_must
      rw [sX1_quarrelAtO h1.1 ox, q_b_s, q_o_n]
      rfl
    · unfold fX12_must
      rw [sX12_isQuarrelO h2.1 ox, q_b_s, if_neg (by decide)]
      rfl
  have hQ := ok.q hq
  have hR := h1.1.2.2.2 q hq
  have hv := ok.v hQ.b
  have hw : v_w (eQ B Cs (b_r B q)) (r_now (b_r B q)) := (ok.2.2.2 q hq).w ok hQ (by have := hQ.2.2.2.2.2.2.1; omega)
  obtain ⟨N, e, P, R, k1⟩ := sX12_loadLast h2 ok hq
  obtain ⟨_, N2, e2, rfl, P2, k2⟩ := sX12_mustField hv P R hw
  refine ⟨nI (if s_e (r_now (b_r B q)) = 2 then 1 else 0), M1, N2, ?_, ?_, kp.rf, k1.tr (k2.wd (fun a j z => SV_2 z)), hM.up⟩
  · unfold fX11_must
    rw [sX1_quarrelAt h1.1 h24 hq, q_b_s, q_o_s, if_pos (kls_q (by omega)), sX4_now hR hQ, q_b_s, sX11_mustMeet M1 hw.1, q_b_s]
    by_cases c : s_e (r_now (b_r B q)) = 2
    · simp (disch := omega) only [y_lit, y_lt_T, y_lt_F, y_le_T, y_le_F, y_eq_T, y_eq_F, y_in_T, y_cl, ↓reduceIte, y_bs, y_bvs, y_os, y_on, y_t, ne_eq, not_true_eq_false, not_false_eq_true, pk_mul, nI_add, c, if_true]
    · simp (disch := omega) only [y_lit, y_lt_T, y_lt_F, y_le_T, y_le_F, y_eq_T, y_eq_F, y_in_T, y_cl, ↓reduceIte, y_bs, y_bvs, y_os, y_on, y_t, ne_eq, not_true_eq_false, not_false_eq_true, pk_mul, nI_add, c, if_false]
  · unfold fX12_must
    rw [sX12_isQuarrel h2.1 h24 hq, q_b_s, if_pos (by decide), e, q_bv_s, e2, q_b_s]
    by_cases c : s_e (r_now (b_r B q)) = 2
    · simp (disch := omega) only [y_lit, y_lt_T, y_lt_F, y_le_T, y_le_F, y_eq_T, y_eq_F, y_in_T, y_cl, ↓reduceIte, y_bs, y_bvs, y_os, y_on, y_t, ne_eq, not_true_eq_false, not_false_eq_true, pk_mul, nI_add, c, if_true]
    · simp (disch := omega) only [y_lit, y_lt_T, y_lt_F, y_le_T, y_le_F, y_eq_T, y_eq_F, y_in_T, y_cl, ↓reduceIte, y_bs, y_bvs, y_os, y_on, y_t, ne_eq, not_true_eq_false, not_false_eq_true, pk_mul, nI_add, c, if_false]
theorem late_loop (h1 : K1 M1 nc B Cs) (h2 : K2 M2 nc B Cs) (ok : KO nc B Cs) {q : Nat} (hq : q < b_q B) : ∀ (n i f : Nat) (N : QM), i + n = r_n (b_r B q) → n < f → kp S2 M2 N → ∃ r N2, fX11_late_b17 f M1 (el 20 5 q) (nI i) = some (r, M1) ∧ fX12_late_b12 f N (nI q) (nI i) = some (r, N2) ∧ kp S2 M2 N2 := by
  have h24 := ok.1.2.1
  have hQ := ok.q hq
  have hR := h1.1.2.2.2 q hq
  have hv := ok.v hQ.b
  have hn9 : r_n (b_r B q) ≤ 9 := hQ.2.2.2.2.2.2.2.1
  have h7 := hR.2.2.2.2.2.1
  intro n
  induction n with
  | zero =>
    intro i f N hi hf kN
    obtain ⟨f, rfl⟩ : ∃ p, f = p + 1 := ⟨f - 1, by omega⟩
    have e : i = r_n (b_r B q) := hi
    subst e
    have KN := h2.kept kN (fun x j z => z)
    have e5 : q_a N 1000 43 (64 * q + 5) = nI (r_n (b_r B q)) := (KN.1.2.2.2 q hq).2.2.2.2.2.1
    refine ⟨-2, N, ?_, ?_, kN⟩
    · simp (disch := omega) only [fX11_late_b17, y_lit, y_lt_T, y_lt_F, y_le_T, y_le_F, y_eq_T, y_eq_F, y_in_T, y_cl, ↓reduceIte, y_bs, y_bvs, y_os, y_on, y_t, ne_eq, not_true_eq_false, not_false_eq_true, pk_mul, nI_add, h7]
    · simp (disch := omega) only [fX12_late_b12, y_lit, y_lt_T, y_lt_F, y_le_T, y_le_F, y_eq_T, y_eq_F, y_in_T, y_cl, ↓reduceIte, y_bs, y_bvs, y_os, y_on, y_t, ne_eq, not_true_eq_false, not_false_eq_true, pk_mul, nI_add, e5]
  | succ n ih =>
    intro i f N hi hf kN
    obtain ⟨f, rfl⟩ : ∃ p, f = p + 1 := ⟨f - 1, by omega⟩
    have hi2 : i < r_n (b_r B q) := by omega
    have KN := h2.kept kN (fun x j z => z)
    have e5 : q_a N 1000 43 (64 * q + 5) = nI (r_n (b_r B q)) := (KN.1.2.2.2 q hq).2.2.2.2.2.1
    have hw : v_w (eQ B Cs (b_r B q)) (r_s (b_r B q) i) := (ok.2.2.2 q hq).w ok hQ hi2
    obtain ⟨N1, e1, P, R, k1⟩ := sX12_load KN ok hq hi2
    obtain ⟨_, N2, e2, rfl, P2, k2⟩ := sX12_mustField hv P R hw
    have k02 : kp S2 M2 N2 := (kN.tr k1).tr (k2.wd (fun a j z => SV_2 z))
    rw [fX11_late_b17, fX12_late_b12]
    simp (disch := omega) only [y_lit, y_lt_T, y_lt_F, y_le_T, y_le_F, y_eq_T, y_eq_F, y_in_T, y_cl, ↓reduceIte, y_bs, y_bvs, y_os, y_on, y_t, ne_eq, not_true_eq_false, not_false_eq_true, pk_mul, nI_add, h7, e5]
    rw [sX4_stateAt hR hn9 hi2, e1]
    simp (disch := omega) only [y_lit, y_lt_T, y_lt_F, y_le_T, y_le_F, y_eq_T, y_eq_F, y_in_T, y_cl, ↓reduceIte, y_bs, y_bvs, y_os, y_on, y_t, ne_eq, not_true_eq_false, not_false_eq_true, pk_mul, nI_add]
    rw [sX11_mustMeet M1 hw.1, e2]
    by_cases c : s_e (r_s (b_r B q) i) = 2
    · refine ⟨nI (i + 1), N2, ?_, ?_, k02⟩ <;> simp (disch := omega) only [y_lit, y_lt_T, y_lt_F, y_le_T, y_le_F, y_eq_T, y_eq_F, y_in_T, y_cl, ↓reduceIte, y_bs, y_bvs, y_os, y_on, y_t, ne_eq, not_true_eq_false, not_false_eq_true, pk_mul, nI_add, c, if_true, fX11_late_b36, fX12_late_b40]
    · obtain ⟨r, N3, f1, f2, f3⟩ := ih (i + 1) f N2 (by omega) (by omega) k02
      refine ⟨r, N3, ?_, ?_, f3⟩ <;> simp (disch := omega) only [y_lit, y_lt_T, y_lt_F, y_le_T, y_le_F, y_eq_T, y_eq_F, y_in_T, y_cl, ↓reduceIte, y_bs, y_bvs, y_os, y_on, y_t, ne_eq, not_true_eq_false, not_false_eq_true, pk_mul, nI_add, c, if_false]
      · exact f1
      · exact f2
theorem pair_late (h1 : K1 M1 nc B Cs) (h2 : K2 M2 nc B Cs) (ok : KO nc B Cs) (hM : MK M1 k) (x : Int32) : LG M1 M2 k (fX11_late M1 x) (fX12_late M2 x) := by
  have h24 := ok.1.2.1
  rcases q_out_or x (n := b_q B) (by omega) with ox | ⟨q, hq, rfl⟩
  · refine ⟨-nI 1, M1, M2, ?_, ?_, kp.rf, kp.rf, hM.up⟩
    · unfold fX11_late
      rw [sX1_quarrelAtO h1.1 ox, q_b_s, q_o_n]
      rfl
    · unfold fX12_late
      rw [sX12_isQuarrelO h2.1 ox, q_b_s, if_neg (by decide)]
      rfl
  have hn9 : r_n (b_r B q) ≤ 9 := (ok.q hq).2.2.2.2.2.2.2.1
  obtain ⟨r, N2, e1, e2, k2⟩ := late_loop h1 h2 ok hq (r_n (b_r B q)) 0 q_F M2 (by omega) (q_Fn (by omega)) kp.rf
  refine ⟨r, M1, N2, ?_, ?_, kp.rf, k2, hM.up⟩
  · unfold fX11_late
    rw [sX1_quarrelAt h1.1 h24 hq, q_b_s, q_o_s, if_pos (kls_q (by omega)), nI0]
    exact e1
  · unfold fX12_late
    rw [sX12_isQuarrel h2.1 h24 hq, q_b_s, if_pos (by decide), nI0]
    exact e2
end PAIRG
