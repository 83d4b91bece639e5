/-! pairs: quarrel, move -/
theorem v_n_l {E : EV} {s : ST} {a b k : Nat} (h : s_e (v_n E s a b k) = 0) : s_l (v_n E s a b k) = s_l s - 1 := by
  unfold v_n at h ⊢
  by_cases c : a = 0 ∧ b = 0 ∧ k = 0
  · rw [if_pos c] at h
    exact absurd h (show ¬ (1 = 0) by decide)
  · rw [if_neg c] at h ⊢
    by_cases c2 : s_l s ≤ 1
    · rw [if_pos c2] at h
      exact absurd h (show ¬ (4 = 0) by decide)
    · rw [if_neg c2]
      rfl
/-- a move takes an hour -/
theorem v_a_l {E : EV} {s : ST} {m : Nat} {n : Bool} (h : s_e (v_a E s m n) = 0) : s_l (v_a E s m n) = s_l s - 1 := by
  unfold v_a at h ⊢
  by_cases c : s_k s = 0
  · rw [if_pos c] at h ⊢
    exact v_n_l h
  · rw [if_neg c] at h
    by_cases c2 : m = 8
    · rw [if_pos c2] at h
      exact absurd h (show ¬ (2 = 0) by decide)
    · rw [if_neg c2] at h
      exact absurd h (show ¬ (3 = 0) by decide)
section PAIRQ
variable {nc a : Nat} {M M1 M2 : QM} {B : BK} {Cs : Nat → CD}
theorem kp1q {M N : QM} {S : Nat → Nat → Prop} (k : kp S M N) (h : ∀ x j, S x j → S1 x j) : kp S1q M N := k.wd (fun x j z => Or.inl (h x j z))
theorem pair_quarrel (h1 : K1 M1 nc B Cs) (h2 : K2 M2 nc B Cs) (ok : KO nc B Cs) (hA : MA M1 a) (ha : a < 2000000000) (x y z w : Int32) : WR M1 M2 nc a Cs (fX11_quarrel M1 x y z w) (fX12_quarrel M2 x y z w) := by
  have h6 := ok.2.1
  have h12 := ok.1.1
  have h24 := ok.1.2.1
  have e42 : q_i M2 1000 42 = nI (b_q B) := h2.1.2.1
  have no : fX11_quarrel M1 x y z w = some (-nI 1, M1) → fX12_quarrel M2 x y z w = some (-nI 1, M2) → WR M1 M2 nc a Cs (fX11_quarrel M1 x y z w) (fX12_quarrel M2 x y z w) := fun e1 e2 => ⟨_, _, _, B, e1, e2, h1, h2, ok, kp.rf, kp.rf, a, by omega, hA⟩
  by_cases hT : ¬ aTwo (b_n B) x y
  · refine no ?_ ?_
    · unfold fX11_quarrel
      rw [sX11_areTwoO h1.1 h12 hT, q_b_s, if_pos rfl]
      rfl
    · unfold fX12_quarrel
      by_cases c : q_i M2 1000 42 = 24
      · rw [if_pos c]; rfl
      · rw [if_neg c, sX12_areTwoO h2.1 h12 hT, q_b_s, if_pos rfl]
        rfl
  obtain ⟨f, s, hf, hs, hfs, rfl, rfl⟩ := Classical.not_not.mp hT
  have t1 := sX11_areTwo h1.1 h12 hf hs hfs
  have t2 := sX12_areTwo h2.1 h12 hf hs hfs
  rcases q_out_or z (n := 10) (by decide) with o | ⟨d, hd, rfl⟩
  · have z1 : fX11_isWithin M1 z 0 9 = some (0, M1) := w_out M1 (show 9 < 1000000 by decide) o
    have z2 : fX12_in M2 (Int32.toInt64 z) 0 9 = some (0, M2) := v_out M2 (show 9 < 1000000 by decide) o
    refine no ?_ ?_
    · unfold fX11_quarrel
      rw [t1, q_b_s, if_neg (by decide), z1, q_b_s, if_pos rfl]
      rfl
    · unfold fX12_quarrel
      by_cases c : q_i M2 1000 42 = 24
      · rw [if_pos c]; rfl
      · rw [if_neg c, t2, q_b_s, if_neg (by decide), z2, q_b_s, if_pos rfl]
        rfl
  have d1 : fX11_isWithin M1 (nI d) 0 9 = some (1, M1) := w_in M1 (n := 9) (k := d) (by decide) (by omega)
  have d2 : fX12_in M2 (Int32.toInt64 (nI d)) 0 9 = some (1, M2) := v_in M2 (n := 9) (k := d) (by decide) (by omega)
  rcases q_out_or w (n := 4) (by decide) with o | ⟨k, hk, rfl⟩
  · have z1 : fX11_isWithin M1 w 0 3 = some (0, M1) := w_out M1 (show 3 < 1000000 by decide) o
    have z2 : fX12_in M2 (Int32.toInt64 w) 0 3 = some (0, M2) := v_out M2 (show 3 < 1000000 by decide) o
    refine no ?_ ?_
    · unfold fX11_quarrel
      rw [t1, q_b_s, if_neg (by decide), d1, q_b_s, if_neg (by decide), z1, q_b_s, if_neg (by decide)]
      rfl
    · unfold fX12_quarrel
      by_cases c : q_i M2 1000 42 = 24
      · rw [if_pos c]; rfl
      · rw [if_neg c, t2, q_b_s, if_neg (by decide), d2, q_b_s, if_neg (by decide), z2, q_b_s, if_pos rfl]
        rfl
  have k1 : fX11_isWithin M1 (nI k) 0 3 = some (1, M1) := w_in M1 (n := 3) (k := k) (by decide) (by omega)
  have k2 : fX12_in M2 (Int32.toInt64 (nI k)) 0 3 = some (1, M2) := v_in M2 (n := 3) (k := k) (by decide) (by omega)
  have c1 := sX1_codeOf h1.1 h12 hf
  have c2 := sX1_codeOf h1.1 h12 hs
  have m1 : q_a M2 1000 1 (4 * f + 3) = oI (b_code B f) := (h2.1.2.2.1 f hf).2.2.2.1
  have m2 : q_a M2 1000 1 (4 * s + 3) = oI (b_code B s) := (h2.1.2.2.1 s hs).2.2.2.1
  have hneg : oI none = -1 := rfl
  cases ef : b_code B f with
  | none =>
    rw [ef] at c1 m1
    refine no ?_ ?_
    · unfold fX11_quarrel
      rw [t1, q_b_s, if_neg (by decide), d1, q_b_s, if_neg (by decide), k1, q_b_s, if_pos (by decide), c1, q_b_s, sX11_hasCodeO h1.2.2 (x := oI none) (Or.inl (by decide)), q_b_s, if_pos rfl]
      rfl
    · unfold fX12_quarrel
      by_cases c : q_i M2 1000 42 = 24
      · rw [if_pos c]; rfl
      · rw [if_neg c, t2, q_b_s, if_neg (by decide), d2, q_b_s, if_neg (by decide), k2, q_b_s, if_neg (by decide)]
        simp (disch := omega) only [y_lit, y_lt_T, y_lt_F, y_le_T, y_le_F, y_eq_T, y_eq_F, y_in_T, y_cl, ↓reduceIte, y_bs, y_bvs, y_os, y_on, y_t, ne_eq, not_true_eq_false, not_false_eq_true, pk_mul, nI_add, m1]
        rw [if_pos (show oI none < nI 0 by decide)]
  | some cf =>
    rw [ef] at c1 m1
    have hcf : cf < nc := (ok.1.2.2.1 f hf).2.2.2.1 cf ef
    have m1 : q_a M2 1000 1 (4 * f + 3) = nI cf := m1
    cases es : b_code B s with
    | none =>
      rw [es] at c2 m2
      refine no ?_ ?_
      · unfold fX11_quarrel
        rw [t1, q_b_s, if_neg (by decide), d1, q_b_s, if_neg (by decide), k1, q_b_s, if_pos (by decide), c1, q_b_s, show oI (some cf) = nI cf from rfl, sX11_hasCode h1.2.2 h6 hcf, q_b_s, if_neg (by decide), c2, q_b_s, sX11_hasCodeO h1.2.2 (x := oI none) (Or.inl (by decide)), q_b_s, if_neg (by decide)]
        rfl
      · unfold fX12_quarrel
        by_cases c : q_i M2 1000 42 = 24
        · rw [if_pos c]; rfl
        · rw [if_neg c, t2, q_b_s, if_neg (by decide), d2, q_b_s, if_neg (by decide), k2, q_b_s, if_neg (by decide)]
          simp (disch := omega) only [y_lit, y_lt_T, y_lt_F, y_le_T, y_le_F, y_eq_T, y_eq_F, y_in_T, y_cl, ↓reduceIte, y_bs, y_bvs, y_os, y_on, y_t, ne_eq, not_true_eq_false, not_false_eq_true, pk_mul, nI_add, m1, m2]
          rw [if_neg (show ¬ nI 0 ≤ oI none by decide)]
    | some cs =>
      rw [es] at c2
      have hcs : cs < nc := (ok.1.2.2.1 s hs).2.2.2.1 cs es
      have hb : r_ob (b_n B) nc (q0 f s cf cs d) := ⟨hf, hs, hfs, hcf, hcs, hd⟩
      by_cases hq : b_q B < 24
      · obtain ⟨_, N1, e1, rfl, a1, a2, a3⟩ := quarrel_1 h1 ok hA ha hq hb ef es hk
        obtain ⟨_, N2, e2, rfl, b1, b2⟩ := quarrel_2 h2 ok hq hb ef es hk
        exact ⟨_, N1, N2, _, e1, e2, a1, b1, bQ_ok ok hq hb hk, a2, b2, a + 1, by omega, a3⟩
      · have hq : b_q B = 24 := by omega
        have e7 : q_i M1 20 7 = nI 24 := by rw [h1.1.2.1, hq]
        refine no ?_ ?_
        · have full : fX1_addQuarrel M1 20 (nI f) (nI s) (nI d) = some (-nI 1, M1) := by
            unfold fX1_addQuarrel
            simp (disch := omega) only [y_lit, y_lt_T, y_lt_F, y_le_T, y_le_F, y_eq_T, y_eq_F, y_in_T, y_cl, ↓reduceIte, y_bs, y_bvs, y_os, y_on, y_t, ne_eq, not_true_eq_false, not_false_eq_true, pk_mul, nI_add, e7]
          unfold fX11_quarrel
          rw [t1, q_b_s, if_neg (by decide), d1, q_b_s, if_neg (by decide), k1, q_b_s, if_pos (by decide), c1, q_b_s, show oI (some cf) = nI cf from rfl, sX11_hasCode h1.2.2 h6 hcf, q_b_s, if_neg (by decide), c2, q_b_s, show oI (some cs) = nI cs from rfl, sX11_hasCode h1.2.2 h6 hcs, q_b_s, if_pos (by decide), full, q_b_s, sX1_quarrelAtO h1.1 (x := -nI 1) (Or.inl (by decide)), q_b_s, q_o_n]
          rfl
        · unfold fX12_quarrel
          rw [e42, hq, if_pos (show nI 24 = (24 : Int32) from rfl)]
          rfl
/-- the quarrel q goes on -/
theorem bR_ok (ok : KO nc B Cs) {q m : Nat} (hq : q < b_q B) (hc : v_can (eQ B Cs (b_r B q)) (r_now (b_r B q)) m = true) : r_n (b_r B q) < 9 ∧ KO nc (bR B q (rA (b_r B q) m (v_a (eQ B Cs (b_r B q)) (r_now (b_r B q)) m true))) Cs := by
  have hQ := ok.q hq
  have hw := ok.2.2.2 q hq
  have hv := ok.v hQ.b
  have hh := v_h_le hv
  have hn0 : 0 < r_n (b_r B q) := hQ.2.2.2.2.2.2.1
  have h0 := (v_canI.mp hc).1
  have hm := (v_canI.mp hc).2.1
  have ww : v_w (eQ B Cs (b_r B q)) (r_now (b_r B q)) := hw.w ok hQ (by omega)
  have wn := hw.2 (r_n (b_r B q) - 1) (by omega) h0
  have hE : v_h (eQ B Cs (b_r B q)) = r_h Cs (b_r B q) := rfl
  have h9 : r_n (b_r B q) < 9 := by omega
  have wa := v_a_w hv ww hc true
  refine ⟨h9, ⟨⟨ok.1.1, ok.1.2.1, ok.1.2.2.1, fun i hi => ?_⟩, ok.2.1, ok.2.2.1, fun i hi => ?_⟩⟩
  · have hi : i < b_q B := hi
    by_cases e : i = q
    · subst e
      rw [show b_r (bR B i (rA (b_r B i) m (v_a (eQ B Cs (b_r B i)) (r_now (b_r B i)) m true))) i = rA (b_r B i) m (v_a (eQ B Cs (b_r B i)) (r_now (b_r B i)) m true) from fU_s _ _ _]
      refine ⟨hQ.1, hQ.2.1, hQ.2.2.1, hQ.2.2.2.1, hQ.2.2.2.2.1, hQ.2.2.2.2.2.1, Nat.succ_pos _, h9, fun k hk => ?_, fun k hk => ?_⟩
      · rw [rA_n] at hk
        by_cases e2 : k = r_n (b_r B i)
        · subst e2
          rw [rA_mN, rA_sN]
          exact ⟨hm, wa.1⟩
        · rw [rA_m _ _ _ e2, rA_s _ _ _ e2]
          exact hQ.2.2.2.2.2.2.2.2.1 k (by omega)
      · rw [rA_n] at hk
        rw [rA_s _ _ _ (by omega)]
        by_cases e2 : k + 1 = r_n (b_r B i)
        · rw [show k = r_n (b_r B i) - 1 by omega]
          exact ⟨h0, wn.1⟩
        · exact hQ.2.2.2.2.2.2.2.2.2 k (by omega)
    · rw [show b_r (bR B q (rA (b_r B q) m (v_a (eQ B Cs (b_r B q)) (r_now (b_r B q)) m true))) i = b_r B i from fU_n _ _ e]
      exact ok.1.2.2.2 i hi
  · have hi : i < b_q B := hi
    by_cases e : i = q
    · subst e
      rw [show b_r (bR B i (rA (b_r B i) m (v_a (eQ B Cs (b_r B i)) (r_now (b_r B i)) m true))) i = rA (b_r B i) m (v_a (eQ B Cs (b_r B i)) (r_now (b_r B i)) m true) from fU_s _ _ _]
      refine ⟨?_, fun k hk => ?_⟩
      · rw [rA_m _ _ _ (by omega)]
        exact hw.1
      · rw [rA_n] at hk
        by_cases e2 : k = r_n (b_r B i)
        · subst e2
          rw [rA_sN]
          intro z0
          obtain ⟨g1, g2, g3, g4, g5⟩ := wa.2 z0
          have gl := v_a_l z0
          have el : s_l (r_now (b_r B i)) = r_h Cs (b_r B i) - (r_n (b_r B i) - 1) := wn.2.1
          have er : r_h Cs (rA (b_r B i) m (v_a (eQ B Cs (b_r B i)) (r_now (b_r B i)) m true)) = r_h Cs (b_r B i) := rfl
          rw [er]
          refine ⟨g1, by omega, g2, ?_, g5⟩
          rw [g4, gl, hE]
          omega
        · rw [rA_s _ _ _ e2]
          exact hw.2 k (by omega)
    · rw [show b_r (bR B q (rA (b_r B q) m (v_a (eQ B Cs (b_r B q)) (r_now (b_r B q)) m true))) i = b_r B i from fU_n _ _ e]
      exact ok.2.2.2 i hi
theorem pair_move (h1 : K1 M1 nc B Cs) (h2 : K2 M2 nc B Cs) (ok : KO nc B Cs) (hA : MA M1 a) (ha : a < 2000000000) (x y : Int32) : WR M1 M2 nc a Cs (fX11_move M1 x y) (fX12_move M2 x y) := by
  have h24 := ok.1.2.1
  rcases q_out_or x (n := b_q B) (by omega) with ox | ⟨q, hq, rfl⟩
  · refine ⟨-nI 1, M1, M2, B, ?_, ?_, h1, h2, ok, kp.rf, kp.rf, a, by omega, hA⟩
    · unfold fX11_move
      rw [sX1_quarrelAtO h1.1 ox, q_b_s, q_o_n]
      rfl
    · unfold fX12_move
      rw [sX12_isQuarrelO h2.1 ox, q_b_s, if_neg (by decide)]
      rfl
  have hQ := ok.q hq
  have hR := h1.1.2.2.2 q hq
  have hv := ok.v hQ.b
  have hn0 : 0 < r_n (b_r B q) := hQ.2.2.2.2.2.2.1
  have hw : v_w (eQ B Cs (b_r B q)) (r_now (b_r B q)) := (ok.2.2.2 q hq).w ok hQ (by omega)
  have eo : el 20 5 q = 100 + q := by rw [el_qN (by decide)]
  obtain ⟨N1, e1, A1, m1, k1⟩ := sX11_study h1 ok hR hQ.b hA ha
  obtain ⟨N2, e2, P, R, k2⟩ := sX12_loadLast h2 ok hq
  have hRN : RQ1 N1 (el 20 5 q) (b_r B q) := hR.kept k1 (fun j z => by unfold SS at z; omega)
  have g1 : fX11_move M1 (nI q) y = (q_b (fX0_allows N1 (s_p (r_now (b_r B q))) y) fun r13 M14 => if r13 ≠ (0 : Int32) then (q_b (fX0_after M14 (s_p (r_now (b_r B q))) y (1 : Int32)) fun r16 M17 => (q_bv (fX4_add M17 (el 20 5 q) y r16) fun M20 => (q_b (fX4_now M20 (el 20 5 q)) fun r22 M23 => (q_b (fX7_ending M23 r22) fun r25 M26 => some (r25, M26))))) else some ((-1 : Int32), M14)) := by
    unfold fX11_move
    rw [sX1_quarrelAt h1.1 h24 hq, q_b_s, q_o_s, if_pos (kls_q (by omega)), e1, q_bv_s, sX4_now hRN hQ, q_b_s]
  have g2 : fX12_move M2 (nI q) y = (q_b (fX12_can N2 y) fun r8 M9 => if r8 ≠ (0 : Int32) then (q_bv (fX12_does M9 y (1 : Int32)) fun M12 => (q_bv (fX12_writes M12 (nI q) y) fun M15 => some (q_i M15 1000 34, M15))) else some ((-1 : Int32), M9)) := by
    unfold fX12_move
    rw [sX12_isQuarrel h2.1 h24 hq, q_b_s, if_pos (by decide), e2, q_bv_s]
  have kz1 : kp S1q M1 N1 := kp1q k1 (fun x j z => SS_1 z)
  have kz2 : kp S2q M2 N2 := k2.wd (fun x j z => Or.inl z)
  have no : fX0_allows N1 (s_p (r_now (b_r B q))) y = some (nI 0, N1) → fX12_can N2 y = some (nI 0, N2) → WR M1 M2 nc a Cs (fX11_move M1 (nI q) y) (fX12_move M2 (nI q) y) := fun a1 a2 => by
    refine ⟨-nI 1, N1, N2, B, ?_, ?_, h1.kept k1 (fun x j z => SS_1 z) ok.2.1, h2.kept k2 (fun x j z => z), ok, kz1, kz2, a + 1, by omega, m1⟩
    · rw [g1, a1, q_b_s, if_neg (by decide)]
      rfl
    · rw [g2, a2, q_b_s, if_neg (by decide)]
      rfl
  rcases q_out_or y (n := 11) (by decide) with oy | ⟨m, hm, rfl⟩
  · exact no (sX0_allowsO hw.1 oy) (sX12_canO R hw.1 oy)
  have al := sX0_allows hv A1 hw.1 hm
  have cn := sX12_can P hv R hw hm
  by_cases hc : ¬ v_can (eQ B Cs (b_r B q)) (r_now (b_r B q)) m = true
  · rw [if_neg hc] at al cn
    exact no al cn
  have hc := Classical.not_not.mp hc
  rw [if_pos hc] at al cn
  obtain ⟨h9, ok2⟩ := bR_ok ok hq hc
  obtain ⟨_, N3, e3, rfl, A3, m3, k3⟩ := sX0_after hv A1 m1 (by omega) hw hc true
  have hR3 : RQ1 N3 (el 20 5 q) (b_r B q) := hRN.kept k3 (fun j z => by have := z.no; omega)
  obtain ⟨N4, e4, hR4, k4⟩ := sX4_add hR3 h9 m (v_a (eQ B Cs (b_r B q)) (r_now (b_r B q)) m true)
  have hQ4 : r_ok (b_n B) nc (rA (b_r B q) m (v_a (eQ B Cs (b_r B q)) (r_now (b_r B q)) m true)) := by
    have := ok2.1.2.2.2 q hq
    rw [show b_r (bR B q (rA (b_r B q) m (v_a (eQ B Cs (b_r B q)) (r_now (b_r B q)) m true))) q = rA (b_r B q) m (v_a (eQ B Cs (b_r B q)) (r_now (b_r B q)) m true) from fU_s _ _ _] at this
    exact this
  have k13 : kp S1 M1 N3 := (k1.wd (fun x j z => SS_1 z)).tr (k3.wd (fun x j z => SA_1 z))
  have K13 := h1.kept k13 (fun x j z => z) ok.2.1
  have ho : ∀ k, k < nc → RC1 N4 (10 + k) (Cs k) := fun k hk => (K13.2.1 k hk).any k4 (fun j z => by have := ok.2.1; omega)
  obtain ⟨N5, e5, R5, k5⟩ := sX12_does P hv R hw hc true
  have k25 : kp S2 M2 N5 := k2.tr (k5.wd (fun x j z => SD_2 z))
  have K25 := h2.kept k25 (fun x j z => z)
  obtain ⟨N6, e6, W6, o6, k6⟩ := sX12_writes (q := q) (m := m) (Q := b_r B q) (by omega) h9 (K25.1.2.2.2 q hq).zero R5
  have k26 : kp S2q M2 N6 := (k25.wd (fun x j z => Or.inl z)).tr (k6.wd (fun x j z => Or.inr ⟨z.1, Or.inr z.2⟩))
  refine ⟨nI (s_e (v_a (eQ B Cs (b_r B q)) (r_now (b_r B q)) m true)), N4, N6, _, ?_, ?_, ⟨K13.1.upd (by decide) (by decide) k4 hR4, ho, ?_⟩, ⟨⟨?_, ?_, ?_, fun i hi => ?_⟩, ?_, ?_, ?_⟩, ok2, ?_, k26, a + 1, by omega, m3.kept k4 (fun z => by omega) (fun z => by omega)⟩
  · have e3' : fX0_after N1 (s_p (r_now (b_r B q))) (nI m) 1 = some (s_p (v_a (eQ B Cs (b_r B q)) (r_now (b_r B q)) m true), N3) := e3
    rw [g1, al, q_b_s, if_pos (by decide), e3', q_b_s, e4, q_bv_s, sX4_now hR4 hQ4, q_b_s, rA_now, sX7_ending N4 (v_a_w hv hw hc true).1, q_b_s]
  · have e5' : fX12_does N2 (nI m) 1 = some N5 := e5
    have e34 : q_i N6 1000 34 = nI (s_e (v_a (eQ B Cs (b_r B q)) (r_now (b_r B q)) m true)) := (k6.i (by decide)).trans R5.2.2.2.2.1
    rw [g2, cn, q_b_s, if_pos (by decide), e5', q_bv_s, e6, q_bv_s, e34]
  · exact (k4.i (fun z => by omega)).trans K13.2.2
  · exact (k6.i (by decide)).trans K25.1.1
  · exact (k6.i (by decide)).trans K25.1.2.1
  · have f1 : (fun i => q_a N6 1000 1 i) = (fun i => q_a N5 1000 1 i) := funext fun i => k6.a (by decide)
    have f2 : (fun i => q_a N6 1000 2 i) = (fun i => q_a N5 1000 2 i) := funext fun i => k6.a (by decide)
    rw [f1, f2]
    exact K25.1.2.2.1
  · have hi : i < b_q B := hi
    by_cases e : i = q
    · subst e
      rw [show b_r (bR B i (rA (b_r B i) m (v_a (eQ B Cs (b_r B i)) (r_now (b_r B i)) m true))) i = rA (b_r B i) m (v_a (eQ B Cs (b_r B i)) (r_now (b_r B i)) m true) from fU_s _ _ _]
      exact W6
    · rw [show b_r (bR B q (rA (b_r B q) m (v_a (eQ B Cs (b_r B q)) (r_now (b_r B q)) m true))) i = b_r B i from fU_n _ _ e]
      exact (K25.1.2.2.2 i hi).same (ok.q hi).2.2.2.2.2.2.2.1 (fun j h1 h2 => o6 j (by omega))
  · intro k hk
    have g := K25.2.1 k hk
    unfold RC2 at g ⊢
    rw [k6.a (by decide), k6.a (by decide), k6.a (by decide), k6.a (by decide), k6.a (by decide)]
    refine ⟨g.1, g.2.1, g.2.2.1, g.2.2.2.1, g.2.2.2.2.1, fun i hi hs => ?_, fun j hj => (k6.a (by decide)).trans (g.2.2.2.2.2.2 j hj)⟩
    rw [k6.a (by decide), k6.a (by decide), k6.a (by decide), k6.a (by decide), k6.a (by decide)]
    exact g.2.2.2.2.2.1 i hi hs
  · exact (k6.i (by decide)).trans K25.2.2.1
  · exact (k6.i (by decide)).trans K25.2.2.2
  · exact (k13.wd (fun x j z => Or.inl z)).tr (k4.wd (fun x j z => Or.inr (Or.inr (by omega))))
end PAIRQ
