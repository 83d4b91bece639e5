/-! pairs: ends, ways, brief -/
theorem m1_lt0 : (-nI 1 < nI 0) = True := m1_lt
theorem m1_ge {z : Int32} (h : (-1 : Int32) ≤ z) (h2 : z < 0) : z = -1 := by
  rw [Int32.le_iff_toInt_le] at h
  rw [Int32.lt_iff_toInt_lt] at h2
  apply Int32.toInt_inj.mp
  have e1 : (-1 : Int32).toInt = -1 := by decide
  have e0 : (0 : Int32).toInt = 0 := by decide
  omega
section PAIRW
variable {nc k : Nat} {M M1 M2 : QM} {B : BK} {Cs : Nat → CD}
/-- the class: told, set and walked -/
theorem sX11_walked (h1 : K1 M1 nc B Cs) (ok : KO nc B Cs) (hM : MK M1 k) (hk : k < 1000) {q : Nat} (hq : q < b_q B) : ∃ N1 N2 w, fX11_study M1 (el 20 5 q) = some N1 ∧ fX4_now N1 (el 20 5 q) = some (s_p (r_now (b_r B q)), N1) ∧ fX10_go N1 (s_p (r_now (b_r B q))) = some N2 ∧ WF N2 (eQ B Cs (b_r B q)) w (r_now (b_r B q)) ∧ kp S5 M1 N2 ∧ MK N2 (k + 1) := by
  have h24 := ok.1.2.1
  have hQ := ok.q hq
  have hR := h1.1.2.2.2 q hq
  have hv := ok.v hQ.b
  have hw : v_w (eQ B Cs (b_r B q)) (r_now (b_r B q)) := (ok.2.2.2 q hq).w ok hQ (by have := hQ.2.2.2.2.2.2.1; omega)
  have eo : el 20 5 q = 100 + q := by rw [el_qN (by decide)]
  obtain ⟨⟨a, ha, hA⟩, ⟨g, hg, hG⟩, v, hv2, hW⟩ := hM
  obtain ⟨N1, e1, A1, m1, k1⟩ := sX11_study h1 ok hR hQ.b hA (by omega)
  have hRN : RQ1 N1 (el 20 5 q) (b_r B q) := hR.kept k1 (fun j z => by unfold SS at z; omega)
  have hW1 := hW.kept k1 (fun j z => by unfold SS at z; omega)
  obtain ⟨N2, e2, F2, A2, m2, k2⟩ := sX10_go hv A1 m1 (by omega) hW1 (by omega) hw
  exact ⟨N1, N2, v + 1, e1, sX4_now hRN hQ, e2, F2, (k1.wd (fun x j z => S1_5 (SS_1 z))).tr (k2.wd (fun x j z => SX_5 z)), ⟨a + 1, by omega, m2⟩, ⟨g, by omega, (hG.kept k1 (fun j z => by unfold SS at z; omega)).kept k2 (fun j z => by unfold SX SA at z; omega)⟩, v + 1, by omega, F2.mk⟩
theorem pair_ends (h1 : K1 M1 nc B Cs) (h2 : K2 M2 nc B Cs) (ok : KO nc B Cs) (hM : MK M1 k) (hk : k < 1000) (x : Int32) : LG M1 M2 k (fX11_ends M1 x) (fX12_ends M2 x) := by
  have h24 := ok.1.2.1
  rcases q_out_or x (n := b_q B) (by omega) with ox | ⟨q, hq, rfl⟩
  · refine ⟨-nI 1, M1, M2, ?_, ?_, kp.rf, kp.rf, hM.up⟩
    · unfold fX11_ends
      rw [sX1_quarrelAtO h1.1 ox, q_b_s, q_o_n]
      rfl
    · unfold fX12_ends
      rw [sX12_isQuarrelO h2.1 ox, q_b_s, if_neg (by decide)]
      rfl
  have hQ := ok.q hq
  have hv := ok.v hQ.b
  have hw : v_w (eQ B Cs (b_r B q)) (r_now (b_r B q)) := (ok.2.2.2 q hq).w ok hQ (by have := hQ.2.2.2.2.2.2.1; omega)
  have eo : el 20 5 q = 100 + q := by rw [el_qN (by decide)]
  obtain ⟨N1, N2, w, e1, e2, e3, F, k1, m1⟩ := sX11_walked h1 ok hM hk hq
  obtain ⟨P2, kP, hP⟩ := sX12_worksFrom h2 ok hq (-1)
  refine ⟨nI (v_E (eQ B Cs (b_r B q)) (r_now (b_r B q))), N2, P2, ?_, ?_, k1, kP, m1⟩
  · unfold fX11_ends
    rw [sX1_quarrelAt h1.1 h24 hq, q_b_s, q_o_s, if_pos (kls_q (by omega)), e1, q_bv_s, e2, q_b_s, e3, q_bv_s, sX10_outcomes hv hw F, q_b_s]
  · unfold fX12_ends
    rw [sX12_isQuarrel h2.1 h24 hq, q_b_s, if_pos (by decide)]
    rcases hP with ⟨c, eW, W, PN⟩ | ⟨c, eW, R⟩
    · have wl := hw.2 c
      have hb := s_pl_b hw.1
      have hh := v_h_le hv
      have vv := WK.at W hw c rfl
      unfold VA1 at vv
      rw [s_up_pl hw.1 c wl.1] at vv
      rw [eW, q_b_s]
      simp (disch := omega) only [y_lit, y_lt_T, y_lt_F, y_le_T, y_le_F, y_eq_T, y_eq_F, y_in_T, y_cl, ↓reduceIte, y_bs, y_bvs, y_os, y_on, y_t, ne_eq, not_true_eq_false, not_false_eq_true, pk_mul, nI_add, vv.2.2.1]
    · have hu := s_u_lt hw.1
      rw [eW, q_b_s, sX12_outcome R]
      simp (disch := omega) only [y_lit, y_lt_T, y_lt_F, y_le_T, y_le_F, y_eq_T, y_eq_F, y_in_T, y_cl, ↓reduceIte, y_bs, y_bvs, y_os, y_on, y_t, ne_eq, not_true_eq_false, not_false_eq_true, pk_mul, nI_add, m1_le, y_b31, v_E_e c]
theorem pair_ways (h1 : K1 M1 nc B Cs) (h2 : K2 M2 nc B Cs) (ok : KO nc B Cs) (hM : MK M1 k) (hk : k < 1000) (x y : Int32) : LG M1 M2 k (fX11_ways M1 x y) (fX12_ways M2 x y) := by
  have h24 := ok.1.2.1
  rcases q_out_or x (n := b_q B) (by omega) with ox | ⟨q, hq, rfl⟩
  · refine ⟨-1, M1, M2, ?_, ?_, kp.rf, kp.rf, hM.up⟩
    · unfold fX11_ways
      rw [sX1_quarrelAtO h1.1 ox, q_b_s, q_o_n]
    · unfold fX12_ways
      rw [sX12_isQuarrelO h2.1 ox, q_b_s, if_pos (by decide)]
  have hQ := ok.q hq
  have hv := ok.v hQ.b
  have hw : v_w (eQ B Cs (b_r B q)) (r_now (b_r B q)) := (ok.2.2.2 q hq).w ok hQ (by have := hQ.2.2.2.2.2.2.1; omega)
  rcases q_out_or y (n := 20) (by decide) with o | ⟨u, hu, rfl⟩
  · have z1 : fX11_isWithin M1 y 0 19 = some (0, M1) := w_out M1 (show 19 < 1000000 by decide) o
    have z2 : fX12_in M2 (Int32.toInt64 y) 0 19 = some (0, M2) := v_out M2 (show 19 < 1000000 by decide) o
    refine ⟨-1, M1, M2, ?_, ?_, kp.rf, kp.rf, hM.up⟩
    · unfold fX11_ways
      rw [sX1_quarrelAt h1.1 h24 hq, q_b_s, q_o_s, if_pos (kls_q (by omega)), z1, q_b_s, if_neg (by decide)]
    · unfold fX12_ways
      rw [sX12_isQuarrel h2.1 h24 hq, q_b_s, if_neg (by decide), z2, q_b_s, if_neg (by decide)]
  have y1 : fX11_isWithin M1 (nI u) 0 19 = some (1, M1) := w_in M1 (n := 19) (k := u) (by decide) (by omega)
  have y2 : fX12_in M2 (Int32.toInt64 (nI u)) 0 19 = some (1, M2) := v_in M2 (n := 19) (k := u) (by decide) (by omega)
  have eo : el 20 5 q = 100 + q := by rw [el_qN (by decide)]
  obtain ⟨N1, N2, w, e1, e2, e3, F, k1, m1⟩ := sX11_walked h1 ok hM hk hq
  obtain ⟨P2, kP, hP⟩ := sX12_worksFrom h2 ok hq (nI u)
  refine ⟨lN (v_W (eQ B Cs (b_r B q)) (nI u) (r_now (b_r B q))), N2, P2, ?_, ?_, k1, kP, m1⟩
  · unfold fX11_ways
    rw [sX1_quarrelAt h1.1 h24 hq, q_b_s, q_o_s, if_pos (kls_q (by omega)), y1, q_b_s, if_pos (by decide), e1, q_bv_s, e2, q_b_s, e3, q_bv_s, sX10_waysTo hv F hu, q_b_s]
  · unfold fX12_ways
    rw [sX12_isQuarrel h2.1 h24 hq, q_b_s, if_neg (by decide), y2, q_b_s, if_pos (by decide)]
    rcases hP with ⟨c, eW, W, PN⟩ | ⟨c, eW, R⟩
    · have wl := hw.2 c
      have hb := s_pl_b hw.1
      have hh := v_h_le hv
      have vv := WK.at W hw c rfl
      unfold VA1 at vv
      rw [s_up_pl hw.1 c wl.1] at vv
      rw [eW, q_b_s]
      simp (disch := omega) only [y_lit, y_lt_T, y_lt_F, y_le_T, y_le_F, y_eq_T, y_eq_F, y_in_T, y_cl, ↓reduceIte, y_bs, y_bvs, y_os, y_on, y_t, ne_eq, not_true_eq_false, not_false_eq_true, pk_mul, nI_add, vv.2.2.2.1]
    · have hu2 := s_u_lt hw.1
      rw [eW, q_b_s, sX12_outcome R, v_W_e c]
      by_cases e : s_u (r_now (b_r B q)) = u
      · rw [e, if_pos rfl]
        simp (disch := omega) only [y_lit, y_lt_T, y_lt_F, y_le_T, y_le_F, y_eq_T, y_eq_F, y_in_T, y_cl, ↓reduceIte, y_bs, y_bvs, y_os, y_on, y_t, ne_eq, not_true_eq_false, not_false_eq_true, pk_mul, nI_add, y_lit64, m1_lt0]
      · rw [if_neg (fun z => e ((nI_eq (by omega) (by omega)).mp z))]
        simp (disch := omega) only [y_lit, y_lt_T, y_lt_F, y_le_T, y_le_F, y_eq_T, y_eq_F, y_in_T, y_cl, ↓reduceIte, y_bs, y_bvs, y_os, y_on, y_t, ne_eq, not_true_eq_false, not_false_eq_true, pk_mul, nI_add, y_lit64, m1_lt0]
theorem pair_brief (h1 : K1 M1 nc B Cs) (h2 : K2 M2 nc B Cs) (ok : KO nc B Cs) (hM : MK M1 k) (hk : k < 1000) (x y z : Int32) : LG M1 M2 k (fX11_brief M1 x y z) (fX12_brief M2 x y z) := by
  have h24 := ok.1.2.1
  have no : fX11_brief M1 x y z = some (-1, M1) → fX12_brief M2 x y z = some (-1, M2) → LG M1 M2 k (fX11_brief M1 x y z) (fX12_brief M2 x y z) := fun e1 e2 => ⟨_, _, _, e1, e2, kp.rf, kp.rf, hM.up⟩
  rcases q_out_or x (n := b_q B) (by omega) with ox | ⟨q, hq, rfl⟩
  · refine no ?_ ?_
    · unfold fX11_brief
      rw [sX1_quarrelAtO h1.1 ox, q_b_s, q_o_n]
    · unfold fX12_brief
      rw [sX12_isQuarrelO h2.1 ox, q_b_s, if_pos (by decide)]
  have hQ := ok.q hq
  have hv := ok.v hQ.b
  have hw : v_w (eQ B Cs (b_r B q)) (r_now (b_r B q)) := (ok.2.2.2 q hq).w ok hQ (by have := hQ.2.2.2.2.2.2.1; omega)
  rcases q_out_or y (n := 20) (by decide) with o | ⟨u, hu, rfl⟩
  · have z1 : fX11_isWithin M1 y 0 19 = some (0, M1) := w_out M1 (show 19 < 1000000 by decide) o
    have z2 : fX12_in M2 (Int32.toInt64 y) 0 19 = some (0, M2) := v_out M2 (show 19 < 1000000 by decide) o
    refine no ?_ ?_
    · unfold fX11_brief
      rw [sX1_quarrelAt h1.1 h24 hq, q_b_s, q_o_s, if_pos (kls_q (by omega)), z1, q_b_s, if_pos (by decide)]
    · unfold fX12_brief
      rw [sX12_isQuarrel h2.1 h24 hq, q_b_s, if_neg (by decide), z2, q_b_s, if_pos (by decide)]
  have y1 : fX11_isWithin M1 (nI u) 0 19 = some (1, M1) := w_in M1 (n := 19) (k := u) (by decide) (by omega)
  have y2 : fX12_in M2 (Int32.toInt64 (nI u)) 0 19 = some (1, M2) := v_in M2 (n := 19) (k := u) (by decide) (by omega)
  by_cases hz : (-1 : Int32) ≤ z
  case neg =>
    refine no ?_ ?_
    · unfold fX11_brief
      rw [sX1_quarrelAt h1.1 h24 hq, q_b_s, q_o_s, if_pos (kls_q (by omega)), y1, q_b_s, if_neg (by decide), if_neg hz]
    · unfold fX12_brief
      rw [sX12_isQuarrel h2.1 h24 hq, q_b_s, if_neg (by decide), y2, q_b_s, if_neg (by decide), if_neg hz]
  have eo : el 20 5 q = 100 + q := by rw [el_qN (by decide)]
  obtain ⟨N1, N2, w, e1, e2, e3, F, k1, m1⟩ := sX11_walked h1 ok hM hk hq
  obtain ⟨P2, kP, hP⟩ := sX12_worksFrom h2 ok hq (nI u)
  generalize hE : eQ B Cs (b_r B q) = E at *
  generalize hs : r_now (b_r B q) = s at *
  have f1 : fX11_brief M1 (nI q) (nI u) z = if (lg_cmp (lN (v_W E (nI u) s)) (0 : Int64)) ≠ (0 : Int32) then (q_b (fX10_fewestTo N2 (nI u)) fun r22 M23 => if z ≠ (-1 : Int32) then if r22 ≤ z then some ((-1 : Int32), M23) else (q_b (fX10_moveTo M23 (nI u) ((r22 - (1 : Int32)) - z)) fun r25 M26 => some (r25, M26)) else some (r22, M23)) else some ((-2 : Int32), N2) := by
    unfold fX11_brief
    rw [sX1_quarrelAt h1.1 h24 hq, q_b_s, q_o_s, if_pos (kls_q (by omega)), y1, q_b_s, if_neg (by decide), if_pos hz, e1, q_bv_s, e2, q_b_s, e3, q_bv_s, sX10_waysTo hv F hu, q_b_s]
  have hW31 := v_W_31 hv (nI u) hw
  have bW := v_bW hv (x := nI u) 15 s (by have := hw.1.2.2.1; unfold s_l; omega) hw (by decide)
  have f2 : ∃ x4, fX12_brief M2 (nI q) (nI u) z = fX12_brief_b64 P2 (nI u) z x4 (nI (v_b E (nI u) s)) ∧ (s_e s = 0 → x4 = nI (s_pl s)) := by
    unfold fX12_brief
    rw [sX12_isQuarrel h2.1 h24 hq, q_b_s, if_neg (by decide), y2, q_b_s, if_neg (by decide), if_pos hz]
    rcases hP with ⟨c, eW, W, PN⟩ | ⟨c, eW, R⟩
    · have wl := hw.2 c
      have hb := s_pl_b hw.1
      have hh := v_h_le hv
      have vv := WK.at W hw c rfl
      unfold VA1 at vv
      rw [s_up_pl hw.1 c wl.1] at vv
      refine ⟨nI (s_pl s), ?_, fun _ => rfl⟩
      rw [eW, q_b_s]
      simp (disch := omega) only [y_lit, y_lt_T, y_lt_F, y_le_T, y_le_F, y_eq_T, y_eq_F, y_in_T, y_cl, ↓reduceIte, y_bs, y_bvs, y_os, y_on, y_t, ne_eq, not_true_eq_false, not_false_eq_true, pk_mul, nI_add, vv.2.2.2.2]
    · have hu2 := s_u_lt hw.1
      refine ⟨-nI 1, ?_, fun z => absurd z c⟩
      rw [eW, q_b_s, sX12_outcome R, v_b_e c]
      by_cases e : s_u s = u
      · rw [e, if_pos rfl]
        simp (disch := omega) only [y_lit, y_lt_T, y_lt_F, y_le_T, y_le_F, y_eq_T, y_eq_F, y_in_T, y_cl, ↓reduceIte, y_bs, y_bvs, y_os, y_on, y_t, ne_eq, not_true_eq_false, not_false_eq_true, pk_mul, nI_add, m1_lt0]
      · rw [if_neg (fun z => e ((nI_eq (by omega) (by omega)).mp z))]
        simp (disch := omega) only [y_lit, y_lt_T, y_lt_F, y_le_T, y_le_F, y_eq_T, y_eq_F, y_in_T, y_cl, ↓reduceIte, y_bs, y_bvs, y_os, y_on, y_t, ne_eq, not_true_eq_false, not_false_eq_true, pk_mul, nI_add, m1_lt0]
  obtain ⟨x4, f2, hx4⟩ := f2
  by_cases c0 : v_W E (nI u) s = 0
  · rw [c0, show (0 : Int64) = lN 0 from rfl, y_cmp0, if_neg (by decide)] at f1
    rw [bW.1 c0] at f2
    refine ⟨-2, N2, P2, f1, ?_, k1, kP, m1⟩
    rw [f2]
    unfold fX12_brief_b64
    rw [if_neg (by decide)]
  have hb15 := bW.2 c0
  have few := sX10_fewestTo hv hw F hu (by omega)
  rw [show (0 : Int64) = lN 0 from rfl, y_cmp1 (by omega) (by omega), if_pos (by decide), few, q_b_s] at f1
  unfold fX12_brief_b64 at f2
  rw [if_pos (show nI (v_b E (nI u) s) ≠ (99 : Int32) from fun z => by have := (nI_eq (a := v_b E (nI u) s) (b := 99) (by omega) (by decide)).mp z; omega)] at f2
  by_cases cz : z = -1
  · rw [if_neg (not_not_intro cz)] at f1 f2
    exact ⟨_, N2, P2, f1, f2, k1, kP, m1⟩
  rw [if_pos cz] at f1 f2
  rcases q_out_or z (n := v_b E (nI u) s) (by omega) with oz | ⟨v, hv2, rfl⟩
  · have hle : nI (v_b E (nI u) s) ≤ z := by
      rcases oz with h | h
      · exact absurd (m1_ge hz h) cz
      · exact h
    rw [if_pos hle] at f1
    rw [if_neg (Int32.not_lt.mpr hle)] at f2
    exact ⟨_, N2, P2, f1, f2, k1, kP, m1⟩
  · have hne : ¬ nI (v_b E (nI u) s) ≤ nI v := nI_ge hv2 (by omega)
    have mv := sX10_moveTo hv hw F hu (by omega) hv2
    have es : nI (v_b E (nI u) s) - 1 - nI v = nI (v_b E (nI u) s - 1 - v) := by
      rw [show (1 : Int32) = nI 1 from rfl, pk_sub (by omega), pk_sub (by omega)]
    rw [if_neg hne, es, mv, q_b_s] at f1
    rw [if_pos (nI_lt hv2 (by omega))] at f2
    have c : s_e s = 0 := by
      by_cases c : s_e s = 0
      · exact c
      · rw [v_b_e c] at hv2 hb15
        split at hv2
        · omega
        · rename_i e
          rw [if_neg e] at hb15
          omega
    rw [hx4 c] at f2
    rcases hP with ⟨c', eW, W, PN⟩ | ⟨c', eW, R⟩
    · obtain ⟨cl, w1, w2, w3, w4⟩ := W
      obtain ⟨r, N3, g1, rfl, k3⟩ := sX12_brief_b98 hv w3 hw c (x := nI u) (by omega) w2 ⟨u, hu, rfl⟩ hv2 (v + 1) 0 q_F P2 (-nI 1) (by omega) (q_Fn (by omega)) PN w4 (fun z => absurd rfl z)
      have ep : s_plc (v_q E (nI u) s 0) = nI (s_pl s) := if_pos c
      rw [ep] at g1
      exact ⟨_, N2, N3, f1, f2.trans g1, k1, kP.tr (k3.wd (fun a j z => SV_2 (SD_V z))), m1⟩
    · exact absurd c c'
end PAIRW
