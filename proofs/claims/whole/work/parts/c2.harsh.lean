/-! pairs: doubt, harsh -/
theorem ite01_lt (c : Prop) [Decidable c] : (if c then 1 else 0 : Nat) < 2 := by split <;> decide
section PAIRD
variable {nc k c0 c1 : Nat} {M M1 M2 : QM} {B : BK} {Cs : Nat → CD} {E : EV}
theorem pair_doubt (h1 : K1 M1 nc B Cs) (h2 : K2 M2 nc B Cs) (ok : KO nc B Cs) (hM : MK M1 k) (hk : k < 1000) (x y : Int32) : LG M1 M2 k (fX11_doubt M1 x y) (fX12_doubt M2 x y) := by
  have h24 := ok.1.2.1
  have no : fX11_doubt M1 x y = some (-nI 1, M1) → fX12_doubt M2 x y = some (-nI 1, M2) → LG M1 M2 k (fX11_doubt M1 x y) (fX12_doubt M2 x y) := fun e1 e2 => ⟨_, _, _, e1, e2, kp.rf, kp.rf, hM.up⟩
  rcases q_out_or x (n := b_q B) (by omega) with ox | ⟨q, hq, rfl⟩
  · refine no ?_ ?_
    · unfold fX11_doubt
      rw [sX1_quarrelAtO h1.1 ox, q_b_s, q_o_n]
      rfl
    · unfold fX12_doubt
      rw [sX12_isQuarrelO h2.1 ox, q_b_s, if_pos rfl]
      rfl
  have g1 := sX1_quarrelAt h1.1 h24 hq
  have g2 := sX12_isQuarrel h2.1 h24 hq
  have hQ := ok.q hq
  have hR := h1.1.2.2.2 q hq
  have hv := ok.v hQ.b
  have hn0 : 0 < r_n (b_r B q) := hQ.2.2.2.2.2.2.1
  have hn9 : r_n (b_r B q) ≤ 9 := hQ.2.2.2.2.2.2.2.1
  have hm : ∀ k, k < r_n (b_r B q) → r_m (b_r B q) k < 11 := fun k hk => (hQ.2.2.2.2.2.2.2.2.1 k hk).1
  have hm0 := (ok.2.2.2 q hq).1
  have h7 := hR.2.2.2.2.2.1
  have t5 : q_a M2 1000 43 (64 * q + 5) = nI (r_n (b_r B q)) := (h2.1.2.2.2 q hq).2.2.2.2.2.1
  have hp : 2 ^ r_n (b_r B q) ≤ 512 := Nat.pow_le_pow_right (n := 2) (by decide) hn9
  have hp1 : 1 ≤ 2 ^ r_n (b_r B q) := Nat.one_le_two_pow
  have es : nI (2 ^ r_n (b_r B q)) - nI 1 = nI (2 ^ r_n (b_r B q) - 1) := pk_sub hp1
  have f1 : fX11_doubt M1 (nI q) y = (q_b (fX11_isWithin M1 y (nI 0) (nI (2 ^ r_n (b_r B q) - 1))) fun r7 M8 => if r7 ≠ (0 : Int32) then (q_bv (fX11_study M8 (el 20 5 q)) fun M11 => (q_bv (fX3_begin M11) fun M14 => (q_b (fX4_spoken M14 (el 20 5 q)) fun r16 M17 => (fX11_doubt_b57 q_F M17 (el 20 5 q) (y &&& r16) (0 : Int32) (0 : Int32))))) else some ((-1 : Int32), M8)) := by
    unfold fX11_doubt
    rw [g1, q_b_s, q_o_s, if_pos (kls_q (by omega)), h7, show (1 : Int32) <<< (nI (r_n (b_r B q)) &&& (31 : Int32)) = nI (2 ^ r_n (b_r B q)) from bit31 _ (by omega), L1, es]
    rfl
  have f2 : fX12_doubt M2 (nI q) y = (q_b (fX12_in M2 (Int32.toInt64 y) (lN 0) (lN (2 ^ r_n (b_r B q) - 1))) fun r7 M8 => if r7 ≠ (0 : Int32) then (q_bv (fX12_forgets M8) fun M11 => (fX12_doubt_b44 q_F M11 (nI q) y (0 : Int32) (0 : Int32))) else some ((-1 : Int32), M8)) := by
    unfold fX12_doubt
    rw [g2, q_b_s, if_neg (by decide)]
    rw [show (64 : Int32) * nI q + (5 : Int32) = nI (64 * q + 5) by rw [L64, L5, pk_mul, nI_add], if_pos (q_inN (by omega) (by decide)), nI_cl (by omega), t5, show (1 : Int32) <<< (nI (r_n (b_r B q)) &&& (31 : Int32)) = nI (2 ^ r_n (b_r B q)) from bit31 _ (by omega), y_t, L1, es, nI_l (by omega)]
    rfl
  rw [sX11_isWithin, q_b_s] at f1
  rw [sX12_in _ _ _ _ (by decide) (by omega), q_b_s] at f2
  by_cases cy : ¬ (nI 0 ≤ y ∧ y ≤ nI (2 ^ r_n (b_r B q) - 1))
  · refine no ?_ ?_
    · rw [f1, if_neg cy, if_neg (by decide)]; rfl
    · rw [f2, if_neg cy, if_neg (by decide)]; rfl
  have cy := Classical.not_not.mp cy
  obtain ⟨U, hU, rfl⟩ := (in_nI (by omega)).mp cy
  have hU9 : U < 512 := by omega
  rw [if_pos cy, if_pos (by decide)] at f1 f2
  have eo : el 20 5 q = 100 + q := by rw [el_qN (by decide)]
  obtain ⟨⟨a, ha, hA⟩, ⟨g, hg, hG⟩, v, hv2, hW⟩ := hM
  obtain ⟨N1, e1, A1, m1, k1⟩ := sX11_study h1 ok hR hQ.b hA (by omega)
  obtain ⟨N2, e2, G2, k2⟩ := sX3_begin (hG.kept k1 (fun j z => by unfold SS at z; omega)) (by omega) (eQ B Cs (b_r B q))
  have A2 := A1.kept k2 (fun x j z => Or.inl z.1)
  have m2 := m1.kept k2 (by decide) (by decide)
  have W2 := (hW.kept k1 (fun j z => by unfold SS at z; omega)).kept k2 (fun j z => by omega)
  have hR2 : RQ1 N2 (el 20 5 q) (b_r B q) := (hR.kept k1 (fun j z => by unfold SS at z; omega)).kept k2 (fun j z => by omega)
  have hS : U &&& r_b (b_r B q) (r_n (b_r B q)) < 512 := Nat.lt_of_le_of_lt Nat.and_le_left hU9
  obtain ⟨_, P1, d1, rfl, m5, G5, k5⟩ := sX11_doubt_b57 hv (g := g + 1) (by omega) (by omega) (o := el 20 5 q) (by omega) hR2 hn0 hn9 hm hm0 hS ((U &&& r_b (b_r B q) (r_n (b_r B q))) + 1) 0 q_F N2 (by omega) (q_Fn (by omega)) A2 m2 G2 kp.rf
  obtain ⟨Q1, j1, C1, kj1⟩ := sX12_forgets M2
  have K2' := h2.kept kj1 (fun x j z => by unfold S2; omega)
  obtain ⟨_, P2, d2, rfl, k6⟩ := sX12_doubt_b44 K2' ok hq hU9 (D := o_D U (fun u => decide (s_e (v_hD (eQ B Cs (b_r B q)) (b_r B q) u) = 0)) (v_U (eQ B Cs (b_r B q)) (b_r B q)) (o_D U (fun u => decide (¬ s_e (v_hD (eQ B Cs (b_r B q)) (b_r B q) u) = 0)) (v_U (eQ B Cs (b_r B q)) (b_r B q)) 0 (U + 1)) (U + 1)) (fun N c hc hcw P kN hmk => by
    obtain ⟨N3, w1, ⟨c', w2, w3, w4, w5⟩, w6, w7⟩ := sX12_works hv P (x := -nI 1) hc hcw
    have K3 := (K2'.kept kN (fun x j z => z)).kept w7 (fun x j z => SV_2 z)
    obtain ⟨_, N4, u1, rfl, u2⟩ := sX12_doubt_b112 K3 ok hq (D0 := o_D U (fun u => decide (¬ s_e (v_hD (eQ B Cs (b_r B q)) (b_r B q) u) = 0)) (v_U (eQ B Cs (b_r B q)) (b_r B q)) 0 (U + 1)) hU9 (c := c') w5 (fun u a1 a2 a3 => w3 _ (hmk u a1 a2 a3)) (U + 1) 0 q_F N3 (by omega) (q_Fn (by omega)) kp.rf
    refine ⟨_, N4, ?_, rfl, (kN.tr (w7.wd (fun x j z => SV_2 z))).tr (u2.wd (fun x j z => SDQ_2 z))⟩
    unfold fX12_doubt_b104
    have w1' : fX12_works N (-1) = some N3 := w1
    rw [w1', q_bv_s]
    exact u1) (U + 1) 0 q_F Q1 (fun _ => false) (by omega) (q_Fn (by omega)) kp.rf C1 (fun i hi => by cases hi) (fun z => absurd z (Nat.lt_irrefl 0)) (fun u hu => absurd hu (Nat.not_lt_zero u))
  rw [e1, q_bv_s, e2, q_bv_s, sX4_spoken hR2 hn9 hm, q_b_s, nI_and, nI0] at f1
  rw [j1, q_bv_s, nI0] at f2
  refine ⟨_, P1, P2, f1.trans d1, ?_, ((k1.wd (fun x j z => S1_5 (SS_1 z))).tr (k2.wd (fun x j z => Or.inr (Or.inl z.1)))).tr (k5.wd (fun x j z => SG_5 z)), (kj1.wd (fun x j z => by unfold S2; omega)).tr k6, ⟨a + 1, by omega, m5⟩, ⟨g + 1, by omega, G5.m⟩, v, by omega, W2.kept k5 (fun j z => by unfold SG SA at z; omega)⟩
  rw [doubt_same hm0 hn0 U]
  exact f2.trans d2
/-- the game of a first slight, both keeping one code -/
theorem sX12_endsInField {m p0 p1 d c kind : Nat} (h : RM2 M B ∧ ∀ k, k < nc → RC2 M k (Cs k)) (hv : v_ok nc (B, (p0, p1, d), (Cs c, Cs c), m)) (hc : c < nc) (hn : nc ≤ 6) (hm : q_i M 1000 25 = nI m) (hk : kind < 4) :
    qW (fX12_endsInField M (nI c) (nI p0) (nI p1) (nI d) (nI kind)) (fun r N => r = nI (if (v_G (B, (p0, p1, d), (Cs c, Cs c), m) (v_1 (B, (p0, p1, d), (Cs c, Cs c), m) kind true)).2 = 8 then 1 else 0) ∧ kp S2 M N) := by
  have hb := (hv.c (k := 0) (by decide)).2.2.1
  obtain ⟨N1, e1, P1, k1⟩ := sX12_meets0 (p0 := p0) (p1 := p1) (d := d) h hc hc hn ⟨hb, hb⟩ hm
  obtain ⟨N2, e2, R2, k2⟩ := sX12_slightsFirst P1 hv hk true
  have hw := v_1w hv kind true
  obtain ⟨_, N3, e3, rfl, P3, k3⟩ := sX12_plays hv (P1.kept k2 (fun a j z => z)) R2 hw
  have l2 := (v_G_lt hv hw).2
  have uo : (v_G (B, (p0, p1, d), (Cs c, Cs c), m) (v_1 (B, (p0, p1, d), (Cs c, Cs c), m) kind true)).2 / 4 = 2 → (v_G (B, (p0, p1, d), (Cs c, Cs c), m) (v_1 (B, (p0, p1, d), (Cs c, Cs c), m) kind true)).2 = 8 := by
    by_cases z : s_e (v_1 (B, (p0, p1, d), (Cs c, Cs c), m) kind true) = 0
    · exact (v_G_ok hv _ _ (Nat.le_refl _) hw z).2.2.2
    · rw [v_G_e z]
      intro y
      have y : s_u (v_1 (B, (p0, p1, d), (Cs c, Cs c), m) kind true) / 4 = 2 := y
      have e1 : s_e (v_1 (B, (p0, p1, d), (Cs c, Cs c), m) kind true) < 2 := ite01_lt _
      have e2 : s_z (v_1 (B, (p0, p1, d), (Cs c, Cs c), m) kind true) = 0 := rfl
      unfold s_u at y
      omega
  refine ⟨_, N3, ?_, rfl, ((k1.wd (fun a j z => SQ_2 z)).tr (k2.wd (fun a j z => SD_2 z))).tr (k3.wd (fun a j z => SV_2 z))⟩
  have e2' : fX12_slightsFirst N1 (nI kind) 1 = some N2 := e2
  unfold fX12_endsInField
  rw [e1, q_bv_s, e2', q_bv_s, e3, q_b_s]
  generalize (v_G (B, (p0, p1, d), (Cs c, Cs c), m) (v_1 (B, (p0, p1, d), (Cs c, Cs c), m) kind true)).2 = u at uo l2
  have e4 : nI u / nI 4 = nI (u / 4) := pk_div (by omega) (by decide) (by decide)
  by_cases c : u = 8
  · subst c
    rfl
  · have c4 : ¬ u / 4 = 2 := fun z => c (uo z)
    simp (disch := omega) only [y_lit, y_lt_T, y_lt_F, y_le_T, y_le_F, y_eq_T, y_eq_F, y_in_T, y_cl, ↓reduceIte, y_bs, y_bvs, y_os, y_on, y_t, ne_eq, not_true_eq_false, not_false_eq_true, pk_mul, nI_add, e4, c, if_false]
theorem pair_harsh (h1 : K1 M1 nc B Cs) (h2 : K2 M2 nc B Cs) (ok : KO nc B Cs) (hM : MK M1 k) (hk : k < 1000) (x1 x2 x3 x4 : Int32) : LG M1 M2 k (fX11_harsh M1 x1 x2 x3 x4) (fX12_harsh M2 x1 x2 x3 x4) := by
  have h6 := ok.2.1
  have h12 := ok.1.1
  have no : fX11_harsh M1 x1 x2 x3 x4 = some (-nI 1, M1) → fX12_harsh M2 x1 x2 x3 x4 = some (-nI 1, M2) → LG M1 M2 k (fX11_harsh M1 x1 x2 x3 x4) (fX12_harsh M2 x1 x2 x3 x4) := fun e1 e2 => ⟨_, _, _, e1, e2, kp.rf, kp.rf, hM.up⟩
  rcases q_out_or x1 (n := nc) (by omega) with ox | ⟨c, hc, rfl⟩
  · refine no ?_ ?_
    · unfold fX11_harsh
      rw [sX11_hasCodeO h1.2.2 ox, q_b_s, if_pos (by decide)]
      rfl
    · unfold fX12_harsh
      rw [sX12_isCodeO h2.2.2.1 ox, q_b_s, if_pos (by decide)]
      rfl
  have g1 := sX11_hasCode h1.2.2 h6 hc
  have g2 := sX12_isCode h2.2.2.1 h6 hc
  by_cases hT : ¬ aTwo (b_n B) x2 x3
  · refine no ?_ ?_
    · unfold fX11_harsh
      rw [g1, q_b_s, if_neg (by decide), sX11_areTwoO h1.1 h12 hT, q_b_s, if_pos (by decide)]
      rfl
    · unfold fX12_harsh
      rw [g2, q_b_s, if_neg (by decide), sX12_areTwoO h2.1 h12 hT, q_b_s, if_pos (by decide)]
      rfl
  obtain ⟨i, j, hi, hj, hij, rfl, rfl⟩ := Classical.not_not.mp hT
  have t1 := sX11_areTwo h1.1 h12 hi hj hij
  have t2 := sX12_areTwo h2.1 h12 hi hj hij
  rcases q_out_or x4 (n := 10) (by decide) with o | ⟨d, hd, rfl⟩
  · have z1 : fX11_isWithin M1 x4 0 9 = some (0, M1) := w_out M1 (show 9 < 1000000 by decide) o
    have z2 : fX12_in M2 (Int32.toInt64 x4) 0 9 = some (0, M2) := v_out M2 (show 9 < 1000000 by decide) o
    refine no ?_ ?_
    · unfold fX11_harsh
      rw [g1, q_b_s, if_neg (by decide), t1, q_b_s, if_neg (by decide), z1, q_b_s, if_neg (by decide)]
      rfl
    · unfold fX12_harsh
      rw [g2, q_b_s, if_neg (by decide), t2, q_b_s, if_neg (by decide), z2, q_b_s, if_neg (by decide)]
      rfl
  have d1 : fX11_isWithin M1 (nI d) 0 9 = some (1, M1) := w_in M1 (n := 9) (k := d) (by decide) (by omega)
  have d2 : fX12_in M2 (Int32.toInt64 (nI d)) 0 9 = some (1, M2) := v_in M2 (n := 9) (k := d) (by decide) (by omega)
  have hc6 : c < 6 := by omega
  have okc := ok.2.2.1 c hc
  have hv : v_ok nc (B, (i, j, d), (Cs c, Cs c), 0) := ⟨ok.1, hi, hj, hij, hd, okc, okc, by show 0 < 64; decide⟩
  obtain ⟨⟨a, ha, hA⟩, ⟨g, hg, hG⟩, v, hv2, hW⟩ := hM
  obtain ⟨N1, e1, A1, m1, k1⟩ := sX0_set (C0 := Cs c) (C1 := Cs c) h1.1 hv hc6 hc6 (h1.2.1 c hc) (h1.2.1 c hc) hA (by omega)
  obtain ⟨N2, e2, G2, k2⟩ := sX3_begin (hG.kept k1 (fun j z => by unfold SS at z; omega)) (by omega) (B, (i, j, d), (Cs c, Cs c), 0)
  have A2 := A1.kept k2 (fun x j z => Or.inl z.1)
  have m2 := m1.kept k2 (by decide) (by decide)
  have W2 := (hW.kept k1 (fun j z => by unfold SS at z; omega)).kept k2 (fun j z => by omega)
  let p : Nat → Bool := fun kind => decide ((v_G (B, (i, j, d), (Cs c, Cs c), 0) (v_1 (B, (i, j, d), (Cs c, Cs c), 0) kind true)).2 = 8)
  have L1' : ∀ (n s q : Nat) (N : QM), s + n = 4 → n < q → AF N (B, (i, j, d), (Cs c, Cs c), 0) c c → MA N (a + 1) → GA N (B, (i, j, d), (Cs c, Cs c), 0) (g + 1) → kp SG N2 N → qW (fX11_harsh_b68 q N (nI (bO p s)) (nI s)) (fun r N1 => r = nI (bO p 4) ∧ MA N1 (a + 1) ∧ GA N1 (B, (i, j, d), (Cs c, Cs c), 0) (g + 1) ∧ kp SG N2 N1) := by
    intro n
    induction n with
    | zero =>
      intro s q N hs hq A mA G kN
      obtain ⟨q, rfl⟩ : ∃ p, q = p + 1 := ⟨q - 1, by omega⟩
      have e : s = 4 := hs
      subst e
      simp (disch := omega) only [fX11_harsh_b68, y_lit, y_lt_T, y_lt_F, y_le_T, y_le_F, y_eq_T, y_eq_F, y_in_T, y_cl, ↓reduceIte, y_bs, y_bvs, y_os, y_on, y_t, ne_eq, not_true_eq_false, not_false_eq_true, pk_mul, nI_add]
      exact qW_s ⟨rfl, mA, G, kN⟩
    | succ n ih =>
      intro s q N hs hq A mA G kN
      obtain ⟨q, rfl⟩ : ∃ p, q = p + 1 := ⟨q - 1, by omega⟩
      obtain ⟨_, N3, e3, rfl, A3, m3, k3⟩ := sX0_open hv A mA (kind := s) (by omega) true
      have hw := v_1w hv s true
      obtain ⟨_, N4, e4, rfl, A4, m4, G4, k4⟩ := sX3_outcomeFrom hv (by omega) (by omega) hw A3 m3 (G.kept k3 (fun j z => by unfold SA at z; omega))
      have l2 := (v_G_lt hv hw).2
      have eb : bO p (s + 1) = bO p s + if p s then 2 ^ s else 0 := rfl
      have nx := ih (s + 1) q N4 (by omega) (by omega) A4 m4 G4 ((kN.tr (k3.wd (fun x j z => Or.inl z))).tr k4)
      have e3' : fX0_open N (nI s) (nI 1) = some (s_p (v_1 (B, (i, j, d), (Cs c, Cs c), 0) s true), N3) := e3
      rw [fX11_harsh_b68]
      simp (disch := omega) only [y_lit, y_lt_T, y_lt_F, y_le_T, y_le_F, y_eq_T, y_eq_F, y_in_T, y_cl, ↓reduceIte, y_bs, y_bvs, y_os, y_on, y_t, ne_eq, not_true_eq_false, not_false_eq_true, pk_mul, nI_add]
      rw [e3']
      simp (disch := omega) only [y_lit, y_lt_T, y_lt_F, y_le_T, y_le_F, y_eq_T, y_eq_F, y_in_T, y_cl, ↓reduceIte, y_bs, y_bvs, y_os, y_on, y_t, ne_eq, not_true_eq_false, not_false_eq_true, pk_mul, nI_add]
      rw [e4]
      by_cases cu : (v_G (B, (i, j, d), (Cs c, Cs c), 0) (v_1 (B, (i, j, d), (Cs c, Cs c), 0) s true)).2 = 8
      · rw [if_pos (show p s = true from decide_eq_true cu)] at eb
        rw [eb] at nx
        simp (disch := omega) only [y_lit, y_lt_T, y_lt_F, y_le_T, y_le_F, y_eq_T, y_eq_F, y_in_T, y_cl, ↓reduceIte, y_bs, y_bvs, y_os, y_on, y_t, ne_eq, not_true_eq_false, not_false_eq_true, pk_mul, nI_add, cu, fX11_harsh_b109, y_b31, bO_or]
        exact nx
      · rw [if_neg (show ¬ p s = true from fun z => cu (of_decide_eq_true z)), Nat.add_zero] at eb
        rw [eb] at nx
        simp (disch := omega) only [y_lit, y_lt_T, y_lt_F, y_le_T, y_le_F, y_eq_T, y_eq_F, y_in_T, y_cl, ↓reduceIte, y_bs, y_bvs, y_os, y_on, y_t, ne_eq, not_true_eq_false, not_false_eq_true, pk_mul, nI_add, fX11_harsh_b109]
        exact nx
  have L2' : ∀ (n s q : Nat) (N : QM), s + n = 4 → n < q → kp S2 M2 N → qW (fX12_harsh_b38 q N (nI c) (nI i) (nI j) (nI d) (nI (bO p s)) (nI s)) (fun r N1 => r = nI (bO p 4) ∧ kp S2 M2 N1) := by
    intro n
    induction n with
    | zero =>
      intro s q N hs hq kN
      obtain ⟨q, rfl⟩ : ∃ p, q = p + 1 := ⟨q - 1, by omega⟩
      have e : s = 4 := hs
      subst e
      simp (disch := omega) only [fX12_harsh_b38, y_lit, y_lt_T, y_lt_F, y_le_T, y_le_F, y_eq_T, y_eq_F, y_in_T, y_cl, ↓reduceIte, y_bs, y_bvs, y_os, y_on, y_t, ne_eq, not_true_eq_false, not_false_eq_true, pk_mul, nI_add]
      exact qW_s ⟨rfl, kN⟩
    | succ n ih =>
      intro s q N hs hq kN
      obtain ⟨q, rfl⟩ : ∃ p, q = p + 1 := ⟨q - 1, by omega⟩
      have KN := h2.kept kN (fun x j z => z)
      obtain ⟨_, N3, e3, rfl, k3⟩ := sX12_endsInField ⟨KN.1, KN.2.1⟩ hv hc h6 KN.2.2.2 (kind := s) (by omega)
      have eb : bO p (s + 1) = bO p s + if p s then 2 ^ s else 0 := rfl
      have nx := ih (s + 1) q N3 (by omega) (by omega) (kN.tr k3)
      rw [fX12_harsh_b38]
      simp (disch := omega) only [y_lit, y_lt_T, y_lt_F, y_le_T, y_le_F, y_eq_T, y_eq_F, y_in_T, y_cl, ↓reduceIte, y_bs, y_bvs, y_os, y_on, y_t, ne_eq, not_true_eq_false, not_false_eq_true, pk_mul, nI_add]
      rw [e3]
      by_cases cu : (v_G (B, (i, j, d), (Cs c, Cs c), 0) (v_1 (B, (i, j, d), (Cs c, Cs c), 0) s true)).2 = 8
      · rw [if_pos (show p s = true from decide_eq_true cu)] at eb
        rw [eb] at nx
        simp (disch := omega) only [y_lit, y_lt_T, y_lt_F, y_le_T, y_le_F, y_eq_T, y_eq_F, y_in_T, y_cl, ↓reduceIte, y_bs, y_bvs, y_os, y_on, y_t, ne_eq, not_true_eq_false, not_false_eq_true, pk_mul, nI_add, cu, if_true, fX12_harsh_b68, y_b31, bO_or]
        exact nx
      · rw [if_neg (show ¬ p s = true from fun z => cu (of_decide_eq_true z)), Nat.add_zero] at eb
        rw [eb] at nx
        simp (disch := omega) only [y_lit, y_lt_T, y_lt_F, y_le_T, y_le_F, y_eq_T, y_eq_F, y_in_T, y_cl, ↓reduceIte, y_bs, y_bvs, y_os, y_on, y_t, ne_eq, not_true_eq_false, not_false_eq_true, pk_mul, nI_add, cu, if_false, fX12_harsh_b68, nI_or0]
        exact nx
  obtain ⟨_, P1, f1, rfl, m5, G5, k5⟩ := L1' 4 0 q_F N2 (by decide) (q_Fn (by decide)) A2 m2 G2 kp.rf
  obtain ⟨_, P2, f2, rfl, k6⟩ := L2' 4 0 q_F M2 (by decide) (q_Fn (by decide)) kp.rf
  refine ⟨nI (bO p 4), P1, P2, ?_, ?_, ((k1.wd (fun x j z => S1_5 (SS_1 z))).tr (k2.wd (fun x j z => Or.inr (Or.inl z.1)))).tr (k5.wd (fun x j z => SG_5 z)), k6, ⟨a + 1, by omega, m5⟩, ⟨g + 1, by omega, G5.m⟩, v, by omega, W2.kept k5 (fun j z => by unfold SG SA at z; omega)⟩
  · unfold fX11_harsh
    rw [g1, q_b_s, if_neg (by decide), t1, q_b_s, if_neg (by decide), d1, q_b_s, if_pos (by decide), sX11_codeAt hc6, q_b_s, if_pos (kls_c hc6), sX11_codeAt hc6, q_b_s, if_pos (kls_c hc6), e1, q_bv_s, e2, q_bv_s, nI0]
    exact f1
  · unfold fX12_harsh
    rw [g2, q_b_s, if_neg (by decide), t2, q_b_s, if_neg (by decide), d2, q_b_s, if_pos (by decide), nI0]
    exact f2
end PAIRD
