/-! thinks -/
section THINKS
variable {nc a c0 c1 : Nat} {M M1 M2 : QM} {B : BK} {Cs : Nat → CD} {E : EV}
theorem RQ2.T {q : Nat} {Q : QR} (h : RQ2 (fun i => q_a M 1000 43 i) q Q) {N : QM} (k : ∀ i, q_a N 1000 43 i = q_a M 1000 43 i) : q_a N 1000 43 (64 * q + 5) = nI (r_n Q) ∧ ∀ i, i < r_n Q → q_a N 1000 43 (64 * q + 8 + i) = nI (r_m Q i) :=
  ⟨(k _).trans h.2.2.2.2.2.1, fun i hi => (k _).trans (h.2.2.2.2.2.2.2.2 i hi).1⟩
theorem sX12_thinks_b73 (h : v_ok nc E) {q : Nat} (hq : q < 24) {Q : QR} (hT5 : q_a M 1000 43 (64 * q + 5) = nI (r_n Q)) (hTm : ∀ i, i < r_n Q → q_a M 1000 43 (64 * q + 8 + i) = nI (r_m Q i)) (hn : r_n Q ≤ 9) (hm : ∀ k, k < r_n Q → r_m Q k < 11) (hh : r_n Q ≤ v_h E + 1) {who w : Nat} (hwho : who < 2) (hw2 : w < 2) (hm0 : v_m E = 0) : ∀ (n i f : Nat) (N : QM) (x y : Nat), i + n = r_n Q → n < f → PY N E c0 c1 → kp SD M N → x < 16 → y < 16 →
    q_a N 1000 30 0 = nI x → q_a N 1000 30 1 = nI y → q_i N 1000 31 = nI (i % 2) → q_i N 1000 33 = nI (v_h E - (i - 1)) →
    qW (fX12_thinks_b73 f N (nI q) (nI w) (nI (c_e c0 c1 who)) (nI i)) (fun r N1 => r = nI (if w = 0 then (v_rk E Q who n i x y).1 else (v_rk E Q who n i x y).2) ∧ kp SD M N1) := by
  intro n
  induction n with
  | zero =>
    intro i f N x y hi hf P k hx hy ex ey et el
    obtain ⟨f, rfl⟩ : ∃ p, f = p + 1 := ⟨f - 1, by omega⟩
    have e : i = r_n Q := hi
    subst e
    have h5 : q_a N 1000 43 (64 * q + 5) = nI (r_n Q) := (k.a (by unfold SD; omega)).trans hT5
    simp (disch := omega) only [fX12_thinks_b73, fX12_thinks_b228, y_lit, y_lt_T, y_lt_F, y_le_T, y_le_F, y_eq_T, y_eq_F, y_in_T, y_cl, ↓reduceIte, y_bs, y_bvs, y_os, y_on, y_t, ne_eq, not_true_eq_false, not_false_eq_true, pk_mul, nI_add, h5]
    refine qW_s ⟨?_, k⟩
    match w, hw2 with
    | 0, _ => exact ex
    | 1, _ => exact ey
  | succ n ih =>
    intro i f N x y hi hf P k hx hy ex ey et el
    obtain ⟨f, rfl⟩ : ∃ p, f = p + 1 := ⟨f - 1, by omega⟩
    have h5 : q_a N 1000 43 (64 * q + 5) = nI (r_n Q) := (k.a (by unfold SD; omega)).trans hT5
    have h8 : q_a N 1000 43 (64 * q + 8 + i) = nI (r_m Q i) := (k.a (by unfold SD; omega)).trans (hTm i (by omega))
    have hmi := hm i (by omega)
    have ht : i % 2 < 2 := Nat.mod_lt _ (by decide)
    have e1 : nI 1 - nI (i % 2) = nI (1 - i % 2) := pk_sub (by omega)
    have lc := c_e_lt6 P who
    have eV : v_rk E Q who (n + 1) i x y = if 8 ≤ r_m Q i then v_rk E Q who n (i + 1) x y
      else if i % 2 = 0 then v_rk E Q who n (i + 1) x (v_ch y (r_m Q i) (w_v (v_c E who) (v_g E 0 y x (i - 1)) (r_m Q i)))
      else v_rk E Q who n (i + 1) (v_ch x (r_m Q i) (w_v (v_c E who) (v_g E 1 x y (i - 1)) (r_m Q i))) y := rfl
    have eo : ∀ j, j < 2 → q_a N 1000 30 j = nI (if j = 0 then x else y) := fun j hj => by
      match j, hj with
      | 0, _ => exact ex
      | 1, _ => exact ey
    have hl : v_h E - (v_h E - (i - 1)) = i - 1 := by omega
    obtain ⟨N1, s1, s2, k1⟩ := sX12_spokenC P h (t := i % 2) (x := if 1 - i % 2 = 0 then x else y) (y := if i % 2 = 0 then x else y) (l := v_h E - (i - 1)) ht et (eo _ (by omega)) (eo _ ht) el (by omega)
    rw [hl] at s2
    have P1 := P.kept (k1.wd (fun a j z => SD22 z)) (fun a j z => z)
    have rc := P1.2.2.2.1 who hwho
    have m25 : q_i N1 1000 25 = nI 0 := by
      rw [P1.2.2.2.2.2.2.2, hm0]
    -- behind what is owed the other
    have fin : ∀ (N2 : QM) (z : Nat), kp SD N N2 → z < 16 → (∀ j, j < 2 → q_a N2 1000 30 j = q_a N 1000 30 j) → q_i N2 1000 33 = nI (v_h E - (i - 1)) → v_rk E Q who (n + 1) i x y = v_rk E Q who n (i + 1) (if i % 2 = 0 then x else z) (if i % 2 = 0 then z else y) →
        qW (fX12_thinks_b196 (fun M x1 x3 x4 x5 => fX12_thinks_b73 f M x1 x3 x4 x5) N2 (nI q) (nI w) (nI (c_e c0 c1 who)) (nI i) (nI (1 - i % 2)) (nI z) (nI (1 - i % 2))) (fun r N1 => r = nI (if w = 0 then (v_rk E Q who (n + 1) i x y).1 else (v_rk E Q who (n + 1) i x y).2) ∧ kp SD M N1) := fun N2 z k2 hz ho hlft ev => by
      have kA : kp SD N2 (p_i (p_a N2 1000 30 (1 - i % 2) (nI z)) 1000 31 (nI (1 - i % 2))) := kp.tr (kp_a (SDi (by decide))) (kp_i (SDi (by decide)))
      have P2 := P.kept (k2.tr kA) (fun a j z => z)
      have last : ∀ u : Nat, u = (if i = 0 then 0 else 1) → qW (fX12_thinks_b218 (fun M x1 x3 x4 x5 => fX12_thinks_b73 f M x1 x3 x4 x5) (p_i (p_a N2 1000 30 (1 - i % 2) (nI z)) 1000 31 (nI (1 - i % 2))) (nI q) (nI w) (nI (c_e c0 c1 who)) (nI i) (nI u) (nI (v_h E - (i - 1)))) (fun r N1 => r = nI (if w = 0 then (v_rk E Q who (n + 1) i x y).1 else (v_rk E Q who (n + 1) i x y).2) ∧ kp SD M N1) := fun u eu => by
        have es : nI (v_h E - (i - 1)) - nI u = nI (v_h E - (i + 1 - 1)) := by
          rw [pk_sub (by rw [eu]; split <;> omega)]
          congr 1
          rw [eu]
          split <;> omega
        unfold fX12_thinks_b218
        simp (disch := omega) only [y_lit, y_lt_T, y_lt_F, y_le_T, y_le_F, y_eq_T, y_eq_F, y_in_T, y_cl, ↓reduceIte, y_bs, y_bvs, y_os, y_on, y_t, ne_eq, not_true_eq_false, not_false_eq_true, pk_mul, nI_add, es]
        have kB : kp SD N2 (p_i (p_i (p_a N2 1000 30 (1 - i % 2) (nI z)) 1000 31 (nI (1 - i % 2))) 1000 33 (nI (v_h E - (i + 1 - 1)))) := kA.tr (kp_i (SDi (by decide)))
        rw [ev]
        refine ih (i + 1) f _ _ _ (by omega) (by omega) (P.kept (k2.tr kB) (fun a j z => z)) ((k.tr k2).tr kB) ?_ ?_ ?_ ?_ ?_ ?_
        · split <;> omega
        · split <;> omega
        · rw [q_a_p_i, q_a_p_i, q_a_p_a]
          by_cases c : i % 2 = 0
          · rw [if_neg (by omega), if_pos c, ho 0 (by decide), ex]
          · rw [if_pos (by omega), if_neg c]
        · rw [q_a_p_i, q_a_p_i, q_a_p_a]
          by_cases c : i % 2 = 0
          · rw [if_pos (by omega), if_pos c]
          · rw [if_neg (by omega), if_neg c, ho 1 (by decide), ey]
        · rw [q_i_p_i, if_neg (by decide), q_i_p_i, if_pos ⟨rfl, rfl⟩]
          congr 1
          omega
        · rw [q_i_p_i, if_pos ⟨rfl, rfl⟩]
      unfold fX12_thinks_b196
      by_cases c : i = 0
      · have l := last 0 (by rw [if_pos c])
        simp (disch := omega) only [y_lit, y_lt_T, y_lt_F, y_le_T, y_le_F, y_eq_T, y_eq_F, y_in_T, y_cl, ↓reduceIte, y_bs, y_bvs, y_os, y_on, y_t, ne_eq, not_true_eq_false, not_false_eq_true, pk_mul, nI_add, y_ii, y_ia, y_il, y_ir, y_ai, y_aa, y_al, y_ar, y_li, y_la, y_ll, y_lr, y_ri, y_ra, y_rl, y_rr, and_true, true_and, and_false, false_and, and_self, if_true, if_false, Nat.reduceEqDiff, reduceCtorEq, or_false, false_or, or_true, true_or, hlft] at l ⊢
        exact l
      · have l := last 1 (by rw [if_neg c])
        simp (disch := omega) only [y_lit, y_lt_T, y_lt_F, y_le_T, y_le_F, y_eq_T, y_eq_F, y_in_T, y_cl, ↓reduceIte, y_bs, y_bvs, y_os, y_on, y_t, ne_eq, not_true_eq_false, not_false_eq_true, pk_mul, nI_add, y_ii, y_ia, y_il, y_ir, y_ai, y_aa, y_al, y_ar, y_li, y_la, y_ll, y_lr, y_ri, y_ra, y_rl, y_rr, and_true, true_and, and_false, false_and, and_self, if_true, if_false, Nat.reduceEqDiff, reduceCtorEq, or_false, false_or, or_true, true_or, hlft] at l ⊢
        exact l
    have kS : kp SD N N1 := k1.wd (fun a j z => SD22 z)
    have oN1 : ∀ j, j < 2 → q_a N1 1000 30 j = q_a N 1000 30 j := fun j _ => k1.a (by omega)
    have oo : q_a N1 1000 30 (1 - i % 2) = nI (if i % 2 = 0 then y else x) := by
      rw [oN1 _ (by omega), eo _ (by omega)]
      congr 1
      by_cases c : i % 2 = 0
      · rw [if_neg (by omega), if_pos c]
      · rw [if_pos (by omega), if_neg c]
    have hoo : (if i % 2 = 0 then y else x) < 16 := by split <;> omega
    have l33 : q_i N1 1000 33 = nI (v_h E - (i - 1)) := (k1.i (by omega)).trans el
    have hg : ∀ w, w < 10 → q_a N1 1000 22 w = (if i % 2 = 0 then v_g E 0 y x (i - 1) else v_g E 1 x y (i - 1)) w := fun w hw => by
      rw [s2 w hw]
      by_cases c : i % 2 = 0
      · rw [if_pos c, c, if_neg (by decide), if_pos rfl]
      · rw [if_neg c, show i % 2 = 1 by omega, if_pos (by decide), if_neg (by decide)]
    have eC : ¬ 8 ≤ r_m Q i → v_rk E Q who (n + 1) i x y = v_rk E Q who n (i + 1) (if i % 2 = 0 then x else v_ch (if i % 2 = 0 then y else x) (r_m Q i) (w_v (v_c E who) (if i % 2 = 0 then v_g E 0 y x (i - 1) else v_g E 1 x y (i - 1)) (r_m Q i))) (if i % 2 = 0 then v_ch (if i % 2 = 0 then y else x) (r_m Q i) (w_v (v_c E who) (if i % 2 = 0 then v_g E 0 y x (i - 1) else v_g E 1 x y (i - 1)) (r_m Q i)) else y) := fun h8 => by
      rw [eV, if_neg h8]
      by_cases c : i % 2 = 0
      · simp only [c, if_true]
      · simp only [c, if_false]
    generalize hG : (if i % 2 = 0 then v_g E 0 y x (i - 1) else v_g E 1 x y (i - 1)) = G at hg eC
    generalize hO : (if i % 2 = 0 then y else x) = O at oo hoo eC
    have b164 : ∀ (N2 : QM) (v : Int32) (z : Nat), kp (fun a j => a = 1000 ∧ (j = 23 ∨ j = 24)) N1 N2 → z < 16 → (if nI 0 ≤ nI O + v then (if nI O + v ≤ nI 15 then nI O + v else nI 15) else nI 0) = nI z → v_rk E Q who (n + 1) i x y = v_rk E Q who n (i + 1) (if i % 2 = 0 then x else z) (if i % 2 = 0 then z else y) →
        qW (fX12_thinks_b164 (fun M x1 x3 x4 x5 => fX12_thinks_b73 f M x1 x3 x4 x5) N2 (nI q) (nI w) (nI (c_e c0 c1 who)) (nI i) (nI (1 - i % 2)) v (nI O)) (fun r N1 => r = nI (if w = 0 then (v_rk E Q who (n + 1) i x y).1 else (v_rk E Q who (n + 1) i x y).2) ∧ kp SD M N1) := fun N2 v z k2 hz ez ev => by
      have f := fin N2 z (kS.tr (k2.wd (fun a j z => SD23 z))) hz (fun j hj => (k2.a (by omega)).trans (oN1 j hj)) ((k2.i (by omega)).trans l33) ev
      unfold fX12_thinks_b164
      simp only [y_lit]
      by_cases cA : nI 0 ≤ nI O + v
      · rw [if_pos cA] at ez ⊢
        by_cases cB : nI O + v ≤ nI 15
        · rw [if_pos cB] at ez ⊢
          rw [ez]
          exact f
        · rw [if_neg cB] at ez ⊢
          rw [ez]
          exact f
      · rw [if_neg cA] at ez ⊢
        rw [ez]
        exact f
    have hwv := w_v_lt (h.c hwho) G (r_m Q i)
    by_cases c8 : 8 ≤ r_m Q i
    · have b := b164 N1 (nI 0) O kp.rf hoo (by
        rw [nI_add, Nat.add_zero, if_pos (nI_le (Nat.zero_le _) (by omega)), if_pos (nI_le (show O ≤ 15 by omega) (by decide))]) (by
        rw [eV, if_pos c8, ← hO]
        by_cases c : i % 2 = 0
        · simp only [c, if_true]
        · simp only [c, if_false])
      simp (disch := omega) only [fX12_thinks_b73, y_lit, y_lt_T, y_lt_F, y_le_T, y_le_F, y_eq_T, y_eq_F, y_in_T, y_cl, ↓reduceIte, y_bs, y_bvs, y_os, y_on, y_t, ne_eq, not_true_eq_false, not_false_eq_true, pk_mul, nI_add, h5, h8, et, e1, s1, oo]
      exact b
    · by_cases c4 : r_m Q i < 4
      · obtain ⟨_, N2, d1, rfl, k2⟩ := sX12_degree rc (h.c hwho) lc hg m25 (by decide) c4
        have b := b164 N2 (nI (w_v (v_c E who) G (r_m Q i))) (v_ch O (r_m Q i) (w_v (v_c E who) G (r_m Q i))) k2 (v_ch_lt hoo) (by
          rw [nI_add, if_pos (nI_le (Nat.zero_le _) (by omega))]
          unfold v_ch
          rw [if_pos c4]
          by_cases c : O + w_v (v_c E who) G (r_m Q i) ≤ 15
          · rw [if_pos (nI_le c (by decide)), Nat.min_eq_right c]
          · rw [if_neg (nI_ge (show 15 < _ by omega) (by omega)), Nat.min_eq_left (by omega)]) (eC c8)
        simp (disch := omega) only [fX12_thinks_b73, y_lit, y_lt_T, y_lt_F, y_le_T, y_le_F, y_eq_T, y_eq_F, y_in_T, y_cl, ↓reduceIte, y_bs, y_bvs, y_os, y_on, y_t, ne_eq, not_true_eq_false, not_false_eq_true, pk_mul, nI_add, h5, h8, et, e1, s1, oo]
        rw [d1]
        simp (disch := omega) only [y_lit, y_lt_T, y_lt_F, y_le_T, y_le_F, y_eq_T, y_eq_F, y_in_T, y_cl, ↓reduceIte, y_bs, y_bvs, y_os, y_on, y_t, ne_eq, not_true_eq_false, not_false_eq_true, pk_mul, nI_add]
        exact b
      · obtain ⟨_, N2, d1, rfl, k2⟩ := sX12_takes rc (h.c hwho) lc hg m25 (by decide) (k := r_m Q i - 4) (by omega)
        rw [w_V0 (h.c hwho), show 4 + (r_m Q i - 4) = r_m Q i by omega] at d1
        have e4 : nI (r_m Q i) - nI 4 = nI (r_m Q i - 4) := pk_sub (by omega)
        have b := b164 N2 (-(nI (w_v (v_c E who) G (r_m Q i)))) (v_ch O (r_m Q i) (w_v (v_c E who) G (r_m Q i))) k2 (v_ch_lt hoo) (by
          rw [← Int32.sub_eq_add_neg]
          unfold v_ch
          rw [if_neg c4]
          by_cases c : w_v (v_c E who) G (r_m Q i) ≤ O
          · rw [pk_sub c, if_pos (nI_le (Nat.zero_le _) (by omega)), if_pos (nI_le (show _ ≤ 15 by omega) (by decide))]
          · have := pk_sneg (a := O) (b := w_v (v_c E who) G (r_m Q i)) (by omega) (by omega)
            rw [if_neg (show ¬ nI 0 ≤ _ from Int32.not_le.mpr this), show O - w_v (v_c E who) G (r_m Q i) = 0 by omega]) (eC c8)
        simp (disch := omega) only [fX12_thinks_b73, y_lit, y_lt_T, y_lt_F, y_le_T, y_le_F, y_eq_T, y_eq_F, y_in_T, y_cl, ↓reduceIte, y_bs, y_bvs, y_os, y_on, y_t, ne_eq, not_true_eq_false, not_false_eq_true, pk_mul, nI_add, h5, h8, et, e1, s1, oo, e4]
        rw [d1]
        simp (disch := omega) only [y_lit, y_lt_T, y_lt_F, y_le_T, y_le_F, y_eq_T, y_eq_F, y_in_T, y_cl, ↓reduceIte, y_bs, y_bvs, y_os, y_on, y_t, ne_eq, not_true_eq_false, not_false_eq_true, pk_mul, nI_add]
        exact b
theorem r_n_le (ok : KO nc B Cs) {Q : QR} (hQ : r_ok (b_n B) nc Q) (hw : r_wf Cs Q) : r_n Q ≤ v_h (eQ B Cs Q) + 1 := by
  by_cases c : r_n Q ≤ 1
  · omega
  · have h0 := hQ.2.2.2.2.2.2.2.2.2 (r_n Q - 2) (by omega)
    have := hw.2 (r_n Q - 2) (by omega) h0.1
    have e : v_h (eQ B Cs Q) = r_h Cs Q := rfl
    omega
theorem pair_thinks (h1 : K1 M1 nc B Cs) (h2 : K2 M2 nc B Cs) (ok : KO nc B Cs) (hA : MA M1 a) (ha : a < 2000000000) (x y z : Int32) : LK M1 M2 a (fX11_thinks M1 x y z) (fX12_thinks M2 x y z) := by
  have h24 := ok.1.2.1
  have no : fX11_thinks M1 x y z = some (-nI 1, M1) → fX12_thinks M2 x y z = some (-nI 1, M2) → LK M1 M2 a (fX11_thinks M1 x y z) (fX12_thinks M2 x y z) := fun e1 e2 => ⟨_, _, _, e1, e2, kp.rf, kp.rf, a, by omega, hA⟩
  rcases q_out_or x (n := b_q B) (by omega) with ox | ⟨q, hq, rfl⟩
  · refine no ?_ ?_
    · unfold fX11_thinks
      rw [sX1_quarrelAtO h1.1 ox, q_b_s, q_o_n]
      rfl
    · unfold fX12_thinks
      rw [sX12_isQuarrelO h2.1 ox, q_b_s, if_pos rfl]
      rfl
  have g1 := sX1_quarrelAt h1.1 h24 hq
  have g2 := sX12_isQuarrel h2.1 h24 hq
  rcases q_out_or y (n := 2) (by decide) with o | ⟨who, hwho, rfl⟩
  · have z1 : fX11_isWithin M1 y 0 1 = some (0, M1) := w_out M1 (show 1 < 1000000 by decide) o
    have z2 : fX12_in M2 (Int32.toInt64 y) 0 1 = some (0, M2) := v_out M2 (show 1 < 1000000 by decide) o
    refine no ?_ ?_
    · unfold fX11_thinks
      rw [g1, q_b_s, q_o_s, if_pos (kls_q (by omega)), z1, q_b_s, if_pos rfl]
      rfl
    · unfold fX12_thinks
      rw [g2, q_b_s, if_neg (by decide), z2, q_b_s, if_pos rfl]
      rfl
  have y1 : fX11_isWithin M1 (nI who) 0 1 = some (1, M1) := w_in M1 (n := 1) (k := who) (by decide) (by omega)
  have y2 : fX12_in M2 (Int32.toInt64 (nI who)) 0 1 = some (1, M2) := v_in M2 (n := 1) (k := who) (by decide) (by omega)
  rcases q_out_or z (n := 2) (by decide) with o | ⟨w, hw, rfl⟩
  · have z1 : fX11_isWithin M1 z 0 1 = some (0, M1) := w_out M1 (show 1 < 1000000 by decide) o
    have z2 : fX12_in M2 (Int32.toInt64 z) 0 1 = some (0, M2) := v_out M2 (show 1 < 1000000 by decide) o
    refine no ?_ ?_
    · unfold fX11_thinks
      rw [g1, q_b_s, q_o_s, if_pos (kls_q (by omega)), y1, q_b_s, if_neg (by decide), z1, q_b_s, if_neg (by decide)]
      rfl
    · unfold fX12_thinks
      rw [g2, q_b_s, if_neg (by decide), y2, q_b_s, if_neg (by decide), z2, q_b_s, if_neg (by decide)]
      rfl
  have w1 : fX11_isWithin M1 (nI w) 0 1 = some (1, M1) := w_in M1 (n := 1) (k := w) (by decide) (by omega)
  have w2 : fX12_in M2 (Int32.toInt64 (nI w)) 0 1 = some (1, M2) := v_in M2 (n := 1) (k := w) (by decide) (by omega)
  have hQ := ok.q hq
  have hR := h1.1.2.2.2 q hq
  have hv := ok.v hQ.b
  have hn9 : r_n (b_r B q) ≤ 9 := hQ.2.2.2.2.2.2.2.1
  have hm : ∀ k, k < r_n (b_r B q) → r_m (b_r B q) k < 11 := fun k hk => (hQ.2.2.2.2.2.2.2.2.1 k hk).1
  obtain ⟨N1, e1, A1, m1, k1⟩ := sX11_study h1 ok hR hQ.b hA ha
  have hRN : RQ1 N1 (el 20 5 q) (b_r B q) := hR.kept k1 (fun j z => by rw [el_qN (by decide)] at z; unfold SS at z; omega)
  obtain ⟨_, P1, e1', rfl, A1', m1', k1'⟩ := sX0_reckoned hv A1 m1 hwho (o := el 20 5 q) (by rw [el_qN (by decide)]; omega) hRN hn9 hm
  obtain ⟨t0, t1, t2, t3, t4, t5, t6, t7, t8⟩ := h2.1.2.2.2 q hq
  obtain ⟨N2, e2, P, k2⟩ := sX12_party h2 ok (by omega) hQ.b t0 t1 t2 t3 t4
  have kc := (P.2.2.2.2.1 who hwho).2
  have e29 : q_i N2 1000 29 = nI (v_h (eQ B Cs (b_r B q))) := P.2.2.2.2.2.2.1
  have hT : ∀ i, q_a N2 1000 43 i = q_a M2 1000 43 i := fun i => k2.a (by unfold SQ; omega)
  have hlt := v_rk_lt (E := eQ B Cs (b_r B q)) (b_r B q) who (r_n (b_r B q)) 0 0 0 (by decide) (by decide)
  have kN : kp SD N2 (p_i (p_i (p_a (p_a N2 1000 30 0 (nI 0)) 1000 30 1 (nI 0)) 1000 31 (nI 0)) 1000 33 (nI (v_h (eQ B Cs (b_r B q))))) := by
    refine kp.tr (kp.tr (kp.tr (kp_a ?_) (kp_a ?_)) (kp_i ?_)) (kp_i ?_) <;> exact SDi (by decide)
  have hT2 := RQ2.T (h2.1.2.2.2 q hq) (N := p_i (p_i (p_a (p_a N2 1000 30 0 (nI 0)) 1000 30 1 (nI 0)) 1000 31 (nI 0)) 1000 33 (nI (v_h (eQ B Cs (b_r B q))))) (fun i => (kN.a (by unfold SD; omega)).trans (hT i))
  have lp := sX12_thinks_b73 hv (q := q) (by omega) hT2.1 hT2.2 hn9 hm (r_n_le ok hQ (ok.2.2.2 q hq)) hwho hw rfl (r_n (b_r B q)) 0 q_F _ 0 0 (by omega) (q_Fn (by omega)) (P.kept kN (fun a j z => z)) kp.rf (by decide) (by decide) (by simp [q_a_p_i, q_a_p_a]) (by simp [q_a_p_i, q_a_p_a]) (by simp [q_i_p_i, q_i_p_a]) (by simp [q_i_p_i, q_i_p_a])
  obtain ⟨_, P2, e2', rfl, k2'⟩ := lp
  refine ⟨nI (if w = 0 then (v_rk (eQ B Cs (b_r B q)) (b_r B q) who (r_n (b_r B q)) 0 0 0).1 else (v_rk (eQ B Cs (b_r B q)) (b_r B q) who (r_n (b_r B q)) 0 0 0).2), P1, P2, ?_, ?_, (k1.wd (fun a j z => SS_1 z)).tr (k1'.wd (fun a j z => SA_1 z)), (k2.wd (fun a j z => SQ_2 z)).tr ((kN.wd (fun a j z => SD_2 z)).tr (k2'.wd (fun a j z => SD_2 z))), a + 1, by omega, m1'⟩
  · unfold fX11_thinks
    rw [g1, q_b_s, q_o_s, if_pos (kls_q (by omega)), y1, q_b_s, if_neg (by decide), w1, q_b_s, if_pos (by decide), e1, q_bv_s, e1', q_b_s, sX7_owed P1 (s_okM hlt.1 hlt.2 (by decide) (by decide) (by decide) (by decide) (by decide)) hw, q_b_s]
    rfl
  · unfold fX12_thinks
    rw [g2, q_b_s, if_neg (by decide), y2, q_b_s, if_neg (by decide), w2, q_b_s, if_pos (by decide), e2, q_bv_s]
    simp (disch := omega) only [y_lit, y_lt_T, y_lt_F, y_le_T, y_le_F, y_eq_T, y_eq_F, y_in_T, y_cl, ↓reduceIte, y_bs, y_bvs, y_os, y_on, y_t, ne_eq, not_true_eq_false, not_false_eq_true, pk_mul, nI_add, y_ii, y_ia, y_il, y_ir, y_ai, y_aa, y_al, y_ar, y_li, y_la, y_ll, y_lr, y_ri, y_ra, y_rl, y_rr, and_true, true_and, and_false, false_and, and_self, if_true, if_false, Nat.reduceEqDiff, reduceCtorEq, or_false, false_or, or_true, true_or, kc, e29]
    exact e2'
end THINKS
