/-! pairs: may, weighs, thinks -/
/-- a set as bits -/
def bO (p : Nat → Bool) : Nat → Nat
  | 0 => 0
  | n + 1 => bO p n + if p n then 2 ^ n else 0
theorem bO_lt (p : Nat → Bool) : ∀ n, bO p n < 2 ^ n := by
  intro n
  induction n with
  | zero => exact Nat.one_pos
  | succ n ih =>
    have := Nat.pow_succ 2 n
    unfold bO
    split <;> omega
theorem bO_or (p : Nat → Bool) (n : Nat) : nI (bO p n) ||| nI (2 ^ n) = nI (bO p n + 2 ^ n) := by
  have := nI_orS (b := 1) (bO_lt p n)
  rw [Nat.one_mul] at this
  exact this
theorem y_b31 {t : Nat} (h : t < 31) : nI 1 <<< (nI t &&& nI 31) = nI (2 ^ t) := bit31 t h
theorem nI_or0 (a : Nat) : nI a ||| nI 0 = nI a := by rw [nI_or, Nat.or_zero]
section MAY
variable {nc a c0 c1 : Nat} {M M1 M2 : QM} {B : BK} {Cs : Nat → CD} {E : EV}
theorem sX11_may_b31 (h : v_ok nc E) (A : AF M E c0 c1) {s : ST} (hs : s_ok s) : ∀ (n i q : Nat), i + n = 11 → n < q → fX11_may_b31 q M (s_p s) (nI (bO (v_can E s) i)) (nI i) = some (nI (bO (v_can E s) 11), M) := by
  intro n
  induction n with
  | zero =>
    intro i q hi hq
    obtain ⟨q, rfl⟩ : ∃ p, q = p + 1 := ⟨q - 1, by omega⟩
    have e : i = 11 := hi
    subst e
    simp (disch := omega) only [fX11_may_b31, y_lit, y_lt_T, y_lt_F, y_le_T, y_le_F, y_eq_T, y_eq_F, y_in_T, y_cl, ↓reduceIte, y_bs, y_bvs, y_os, y_on, y_t, ne_eq, not_true_eq_false, not_false_eq_true, pk_mul, nI_add]
  | succ n ih =>
    intro i q hi hq
    obtain ⟨q, rfl⟩ : ∃ p, q = p + 1 := ⟨q - 1, by omega⟩
    have nx := ih (i + 1) q (by omega) (by omega)
    have e : bO (v_can E s) (i + 1) = bO (v_can E s) i + if v_can E s i then 2 ^ i else 0 := rfl
    rw [e] at nx
    by_cases c : v_can E s i = true
    · simp (disch := omega) only [fX11_may_b31, fX11_may_b60, y_lit, y_lt_T, y_lt_F, y_le_T, y_le_F, y_eq_T, y_eq_F, y_in_T, y_cl, ↓reduceIte, y_bs, y_bvs, y_os, y_on, y_t, ne_eq, not_true_eq_false, not_false_eq_true, pk_mul, nI_add, sX0_allows h A hs (show i < 11 by omega), c, if_true, y_b31, bO_or] at nx ⊢
      exact nx
    · simp (disch := omega) only [fX11_may_b31, fX11_may_b60, y_lit, y_lt_T, y_lt_F, y_le_T, y_le_F, y_eq_T, y_eq_F, y_in_T, y_cl, ↓reduceIte, y_bs, y_bvs, y_os, y_on, y_t, ne_eq, not_true_eq_false, not_false_eq_true, pk_mul, nI_add, sX0_allows h A hs (show i < 11 by omega), c, if_false, Bool.false_eq_true, Nat.add_zero] at nx ⊢
      exact nx
theorem sX12_may_b19 (P : PY M E c0 c1) (h : v_ok nc E) {s : ST} (R : RST M s) (hs : v_w E s) : ∀ (n i q : Nat), i + n = 11 → n < q → fX12_may_b19 q M (nI (bO (v_can E s) i)) (nI i) = some (nI (bO (v_can E s) 11), M) := by
  intro n
  induction n with
  | zero =>
    intro i q hi hq
    obtain ⟨q, rfl⟩ : ∃ p, q = p + 1 := ⟨q - 1, by omega⟩
    have e : i = 11 := hi
    subst e
    simp (disch := omega) only [fX12_may_b19, y_lit, y_lt_T, y_lt_F, y_le_T, y_le_F, y_eq_T, y_eq_F, y_in_T, y_cl, ↓reduceIte, y_bs, y_bvs, y_os, y_on, y_t, ne_eq, not_true_eq_false, not_false_eq_true, pk_mul, nI_add]
  | succ n ih =>
    intro i q hi hq
    obtain ⟨q, rfl⟩ : ∃ p, q = p + 1 := ⟨q - 1, by omega⟩
    have nx := ih (i + 1) q (by omega) (by omega)
    have e : bO (v_can E s) (i + 1) = bO (v_can E s) i + if v_can E s i then 2 ^ i else 0 := rfl
    rw [e] at nx
    by_cases c : v_can E s i = true
    · simp (disch := omega) only [fX12_may_b19, fX12_may_b41, y_lit, y_lt_T, y_lt_F, y_le_T, y_le_F, y_eq_T, y_eq_F, y_in_T, y_cl, ↓reduceIte, y_bs, y_bvs, y_os, y_on, y_t, ne_eq, not_true_eq_false, not_false_eq_true, pk_mul, nI_add, sX12_can P h R hs (show i < 11 by omega), c, if_true, y_b31, bO_or] at nx ⊢
      exact nx
    · simp (disch := omega) only [fX12_may_b19, fX12_may_b41, y_lit, y_lt_T, y_lt_F, y_le_T, y_le_F, y_eq_T, y_eq_F, y_in_T, y_cl, ↓reduceIte, y_bs, y_bvs, y_os, y_on, y_t, ne_eq, not_true_eq_false, not_false_eq_true, pk_mul, nI_add, sX12_can P h R hs (show i < 11 by omega), c, if_false, Bool.false_eq_true, Nat.add_zero, nI_or0] at nx ⊢
      exact nx
theorem pair_may (h1 : K1 M1 nc B Cs) (h2 : K2 M2 nc B Cs) (ok : KO nc B Cs) (hA : MA M1 a) (ha : a < 2000000000) (x : Int32) : LK M1 M2 a (fX11_may M1 x) (fX12_may M2 x) := by
  have h24 := ok.1.2.1
  rcases q_out_or x (n := b_q B) (by omega) with ox | ⟨q, hq, rfl⟩
  · refine ⟨-nI 1, M1, M2, ?_, ?_, kp.rf, kp.rf, a, by omega, hA⟩
    · unfold fX11_may
      rw [sX1_quarrelAtO h1.1 ox]
      simp (disch := omega) only [y_lit, y_lt_T, y_lt_F, y_le_T, y_le_F, y_eq_T, y_eq_F, y_in_T, y_cl, ↓reduceIte, y_bs, y_bvs, y_os, y_on, y_t, ne_eq, not_true_eq_false, not_false_eq_true, pk_mul, nI_add]
    · unfold fX12_may
      rw [sX12_isQuarrelO h2.1 ox]
      simp (disch := omega) only [y_lit, y_lt_T, y_lt_F, y_le_T, y_le_F, y_eq_T, y_eq_F, y_in_T, y_cl, ↓reduceIte, y_bs, y_bvs, y_os, y_on, y_t, ne_eq, not_true_eq_false, not_false_eq_true, pk_mul, nI_add]
  · have hQ := ok.q hq
    have hR := h1.1.2.2.2 q hq
    have hv := ok.v hQ.b
    have hw : v_w (eQ B Cs (b_r B q)) (r_now (b_r B q)) := (ok.2.2.2 q hq).w ok hQ (by have := hQ.2.2.2.2.2.2.1; omega)
    obtain ⟨N1, e1, A1, m1, k1⟩ := sX11_study h1 ok hR hQ.b hA ha
    obtain ⟨N2, e2, P, R, k2⟩ := sX12_loadLast h2 ok hq
    have hRN : RQ1 N1 (el 20 5 q) (b_r B q) := hR.kept k1 (fun j z => by rw [el_qN (by decide)] at z; unfold SS at z; omega)
    refine ⟨nI (bO (v_can (eQ B Cs (b_r B q)) (r_now (b_r B q))) 11), N1, N2, ?_, ?_, k1.wd (fun a j z => SS_1 z), k2, a + 1, by omega, m1⟩
    · unfold fX11_may
      rw [sX1_quarrelAt h1.1 h24 hq, q_b_s, q_o_s, if_pos (kls_q (by omega)), e1, q_bv_s, sX4_now hRN hQ, q_b_s, nI0]
      exact sX11_may_b31 hv A1 hw.1 11 0 q_F (by decide) (q_Fn (by decide))
    · unfold fX12_may
      rw [sX12_isQuarrel h2.1 h24 hq, q_b_s, if_pos (by decide), e2, q_bv_s, nI0]
      exact sX12_may_b19 P hv R hw 11 0 q_F (by decide) (q_Fn (by decide))
end MAY
section WEIGHS
variable {nc a : Nat} {M M1 M2 : QM} {B : BK} {Cs : Nat → CD}
theorem pair_weighs (h1 : K1 M1 nc B Cs) (h2 : K2 M2 nc B Cs) (ok : KO nc B Cs) (hA : MA M1 a) (x1 x2 x3 x4 x5 x6 x7 x8 : Int32) : LK M1 M2 a (fX11_weighs M1 x1 x2 x3 x4 x5 x6 x7 x8) (fX12_weighs M2 x1 x2 x3 x4 x5 x6 x7 x8) := by
  have h6 := ok.2.1
  have h12 := ok.1.1
  have no : fX11_weighs M1 x1 x2 x3 x4 x5 x6 x7 x8 = some (-nI 1, M1) → fX12_weighs M2 x1 x2 x3 x4 x5 x6 x7 x8 = some (-nI 1, M2) → LK M1 M2 a (fX11_weighs M1 x1 x2 x3 x4 x5 x6 x7 x8) (fX12_weighs M2 x1 x2 x3 x4 x5 x6 x7 x8) := fun e1 e2 => ⟨_, _, _, e1, e2, kp.rf, kp.rf, a, by omega, hA⟩
  rcases q_out_or x1 (n := nc) (by omega) with ox | ⟨c, hc, rfl⟩
  · refine no ?_ ?_
    · unfold fX11_weighs
      rw [sX11_hasCodeO h1.2.2 ox, q_b_s, if_pos (by decide)]
      rfl
    · unfold fX12_weighs
      rw [sX12_isCodeO h2.2.2.1 ox, q_b_s, if_pos (by decide)]
      rfl
  have g1 := sX11_hasCode h1.2.2 h6 hc
  have g2 := sX12_isCode h2.2.2.1 h6 hc
  by_cases hT : ¬ aTwo (b_n B) x2 x3
  · refine no ?_ ?_
    · unfold fX11_weighs
      rw [g1, q_b_s, if_neg (by decide), sX11_areTwoO h1.1 h12 hT, q_b_s, if_pos (by decide)]
      rfl
    · unfold fX12_weighs
      rw [g2, q_b_s, if_neg (by decide), sX12_areTwoO h2.1 h12 hT, q_b_s, if_pos (by decide)]
      rfl
  obtain ⟨i, j, hi, hj, hij, rfl, rfl⟩ := Classical.not_not.mp hT
  have t1 := sX11_areTwo h1.1 h12 hi hj hij
  have t2 := sX12_areTwo h2.1 h12 hi hj hij
  rcases q_out_or x4 (n := 10) (by decide) with o | ⟨d, hd, rfl⟩
  · have z1 : fX11_isWithin M1 x4 0 9 = some (0, M1) := w_out M1 (show 9 < 1000000 by decide) o
    have z2 : fX12_in M2 (Int32.toInt64 x4) 0 9 = some (0, M2) := v_out M2 (show 9 < 1000000 by decide) o
    refine no ?_ ?_
    · unfold fX11_weighs
      rw [g1, q_b_s, if_neg (by decide), t1, q_b_s, if_neg (by decide), z1, q_b_s, if_neg (by decide)]
      rfl
    · unfold fX12_weighs
      rw [g2, q_b_s, if_neg (by decide), t2, q_b_s, if_neg (by decide), z2, q_b_s, if_pos (by decide)]
      rfl
  have d1 : fX11_isWithin M1 (nI d) 0 9 = some (1, M1) := w_in M1 (n := 9) (k := d) (by decide) (by omega)
  have d2 : fX12_in M2 (Int32.toInt64 (nI d)) 0 9 = some (1, M2) := v_in M2 (n := 9) (k := d) (by decide) (by omega)
  rcases q_out_or x5 (n := 16) (by decide) with o | ⟨u, hu, rfl⟩
  · have z1 : fX11_isWithin M1 x5 0 15 = some (0, M1) := w_out M1 (show 15 < 1000000 by decide) o
    have z2 : fX12_in M2 (Int32.toInt64 x5) 0 15 = some (0, M2) := v_out M2 (show 15 < 1000000 by decide) o
    refine no ?_ ?_
    · unfold fX11_weighs
      rw [g1, q_b_s, if_neg (by decide), t1, q_b_s, if_neg (by decide), d1, q_b_s, if_pos (by decide), z1, q_b_s, if_pos (by decide)]
      rfl
    · unfold fX12_weighs
      rw [g2, q_b_s, if_neg (by decide), t2, q_b_s, if_neg (by decide), d2, q_b_s, if_neg (by decide), z2, q_b_s, if_pos (by decide)]
      rfl
  have u1 : fX11_isWithin M1 (nI u) 0 15 = some (1, M1) := w_in M1 (n := 15) (k := u) (by decide) (by omega)
  have u2 : fX12_in M2 (Int32.toInt64 (nI u)) 0 15 = some (1, M2) := v_in M2 (n := 15) (k := u) (by decide) (by omega)
  rcases q_out_or x6 (n := 16) (by decide) with o | ⟨v, hv, rfl⟩
  · have z1 : fX11_isWithin M1 x6 0 15 = some (0, M1) := w_out M1 (show 15 < 1000000 by decide) o
    have z2 : fX12_in M2 (Int32.toInt64 x6) 0 15 = some (0, M2) := v_out M2 (show 15 < 1000000 by decide) o
    refine no ?_ ?_
    · unfold fX11_weighs
      rw [g1, q_b_s, if_neg (by decide), t1, q_b_s, if_neg (by decide), d1, q_b_s, if_pos (by decide), u1, q_b_s, if_neg (by decide), z1, q_b_s, if_pos (by decide)]
      rfl
    · unfold fX12_weighs
      rw [g2, q_b_s, if_neg (by decide), t2, q_b_s, if_neg (by decide), d2, q_b_s, if_neg (by decide), u2, q_b_s, if_neg (by decide), z2, q_b_s, if_pos (by decide)]
      rfl
  have v1 : fX11_isWithin M1 (nI v) 0 15 = some (1, M1) := w_in M1 (n := 15) (k := v) (by decide) (by omega)
  have v2 : fX12_in M2 (Int32.toInt64 (nI v)) 0 15 = some (1, M2) := v_in M2 (n := 15) (k := v) (by decide) (by omega)
  rcases q_out_or x7 (n := 9) (by decide) with o | ⟨w, hw, rfl⟩
  · have z1 : fX11_isWithin M1 x7 0 8 = some (0, M1) := w_out M1 (show 8 < 1000000 by decide) o
    have z2 : fX12_in M2 (Int32.toInt64 x7) 0 8 = some (0, M2) := v_out M2 (show 8 < 1000000 by decide) o
    refine no ?_ ?_
    · unfold fX11_weighs
      rw [g1, q_b_s, if_neg (by decide), t1, q_b_s, if_neg (by decide), d1, q_b_s, if_pos (by decide), u1, q_b_s, if_neg (by decide), v1, q_b_s, if_neg (by decide), z1, q_b_s, if_neg (by decide)]
      rfl
    · unfold fX12_weighs
      rw [g2, q_b_s, if_neg (by decide), t2, q_b_s, if_neg (by decide), d2, q_b_s, if_neg (by decide), u2, q_b_s, if_neg (by decide), v2, q_b_s, if_neg (by decide), z2, q_b_s, if_pos (by decide)]
      rfl
  have w1 : fX11_isWithin M1 (nI w) 0 8 = some (1, M1) := w_in M1 (n := 8) (k := w) (by decide) (by omega)
  have w2 : fX12_in M2 (Int32.toInt64 (nI w)) 0 8 = some (1, M2) := v_in M2 (n := 8) (k := w) (by decide) (by omega)
  obtain ⟨N1, e1, q1, k1⟩ := sX6_turnTo (so := 7) h1.1 ok.1 (by decide) hi hj d
  obtain ⟨N1', e1', q7, q8, q9, qw, k1'⟩ := sX6_setHour N1 7 (nI u) (nI v) (nI w)
  obtain ⟨N2, e2, q2, k2⟩ := sX12_words h2.1 ok.1 hi hj d u v w
  have hg1 : ∀ w', w' < 10 → q_a N1' 7 0 w' = g_w B i j d u v w w' := fun w' hw' => by
    by_cases e : w' < 7
    · rw [qw w' e, q1 w' e]
      exact g_w7 _ _ _ _ _ _ _ _ _ _ e
    · have : w' = 7 ∨ w' = 8 ∨ w' = 9 := by omega
      rcases this with e | e | e <;> subst e
      · exact q7
      · exact q8
      · exact q9
  have kk1 : kp S1 M1 N1' := (k1.wd (fun a j z => by unfold S1; omega)).tr (k1'.wd (fun a j z => by unfold S1; omega))
  have kk2 : kp S2 M2 N2 := k2.wd (fun a j z => by unfold S2; omega)
  have mA : MA N1' a := hA.kept ((k1.wd (fun a j z => z)).tr k1') (fun z => by omega) (fun z => by omega)
  have hc6 : c < 6 := by omega
  have okc := ok.2.2.1 c hc
  have rc1 : RC1 N1' (10 + c) (Cs c) := (h1.2.1 c hc).any kk1 (fun j z => by unfold S1 at z; omega)
  have rc2 : RC2 N2 c (Cs c) := (h2.2.1 c hc).kept (k2.wd (fun a j z => by omega))
  have m2 : q_i N2 1000 25 = nI 0 := (k2.i (by decide)).trans h2.2.2.2
  have f1 : fX11_weighs M1 (nI c) (nI i) (nI j) (nI d) (nI u) (nI v) (nI w) x8 = (q_b (fX11_isWithin N1' x8 (0 : Int32) (7 : Int32)) fun r26 M27 => if r26 = (0 : Int32) then if x8 ≠ (8 : Int32) then some ((-1 : Int32), M27) else (q_b (fX11_codeAt M27 (nI c)) fun r29 M30 => (if kls r29 = 2 then (q_b (fX2_letsRefuse M30 r29 7) fun r33 M34 => if r33 = (0 : Int32) then some ((0 : Int32), M34) else some ((1 : Int32), M34)) else none)) else (q_b (fX11_codeAt M27 (nI c)) fun r38 M39 => (if kls r38 = 2 then (q_b (fX2_weight M39 r38 x8 7) fun r42 M43 => some (r42, M43)) else none))) := by
    unfold fX11_weighs
    rw [g1, q_b_s, if_neg (by decide), t1, q_b_s, if_neg (by decide), d1, q_b_s, if_pos (by decide), u1, q_b_s, if_neg (by decide), v1, q_b_s, if_neg (by decide), w1, q_b_s, if_pos (by decide), e1, q_bv_s, e1', q_bv_s]
  have f2 : fX12_weighs M2 (nI c) (nI i) (nI j) (nI d) (nI u) (nI v) (nI w) x8 = (q_b (fX12_in M2 (Int32.toInt64 x8) (0 : Int64) (8 : Int64)) fun r20 M21 => if r20 ≠ (0 : Int32) then (q_bv (fX12_words M21 (nI i) (nI j) (nI d) (nI u) (nI v) (nI w)) fun M24 => if (4 : Int32) ≤ x8 then if (8 : Int32) ≤ x8 then (q_b (fX12_mayRefuse M24 (nI c)) fun r26 M27 => if r26 = (0 : Int32) then some ((0 : Int32), M27) else some ((1 : Int32), M27)) else (q_b (fX12_takes M24 (nI c) (x8 - (4 : Int32))) fun r30 M31 => some (r30, M31)) else (q_b (fX12_degree M24 (nI c) x8) fun r34 M35 => some (r34, M35))) else some ((-1 : Int32), M21)) := by
    unfold fX12_weighs
    rw [g2, q_b_s, if_neg (by decide), t2, q_b_s, if_neg (by decide), d2, q_b_s, if_neg (by decide), u2, q_b_s, if_neg (by decide), v2, q_b_s, if_neg (by decide), w2, q_b_s, if_neg (by decide)]
  have fin : ∀ (r : Int32) (P1 P2 : QM), fX11_weighs M1 (nI c) (nI i) (nI j) (nI d) (nI u) (nI v) (nI w) x8 = some (r, P1) → fX12_weighs M2 (nI c) (nI i) (nI j) (nI d) (nI u) (nI v) (nI w) x8 = some (r, P2) → kp (fun x y => x = 10 + c ∧ y = 6) N1' P1 → kp S2 M2 P2 → LK M1 M2 a (fX11_weighs M1 (nI c) (nI i) (nI j) (nI d) (nI u) (nI v) (nI w) x8) (fX12_weighs M2 (nI c) (nI i) (nI j) (nI d) (nI u) (nI v) (nI w) x8) := fun r P1 P2 a1 a2 k k2 => ⟨r, P1, P2, a1, a2, kk1.tr (k.wd (fun x y z => by unfold S1; omega)), k2, a, by omega, mA.kept k (fun z => by omega) (fun z => by omega)⟩
  rcases q_out_or x8 (n := 9) (by decide) with o | ⟨k, hk, rfl⟩
  · have z1 : fX11_isWithin N1' x8 0 7 = some (0, N1') := by
      refine w_out N1' (show 7 < 1000000 by decide) ?_
      rcases o with o | o
      · exact Or.inl o
      · exact Or.inr (Int32.le_trans (nI_le (show 7 + 1 ≤ 9 by decide) (by decide)) o)
    have z2 : fX12_in M2 (Int32.toInt64 x8) 0 8 = some (0, M2) := v_out M2 (show 8 < 1000000 by decide) o
    refine fin (-1) N1' M2 ?_ ?_ kp.rf kp.rf
    · rw [f1, z1, q_b_s, if_pos rfl, if_pos (show x8 ≠ 8 from out_ne (k := 8) o (by decide) (by decide))]
    · rw [f2, z2, q_b_s, if_neg (by decide)]
  · have z2 : fX12_in M2 (Int32.toInt64 (nI k)) 0 8 = some (1, M2) := v_in M2 (n := 8) (k := k) (by decide) (by omega)
    rw [z2, q_b_s, if_pos (by decide), e2, q_bv_s] at f2
    by_cases k8 : k = 8
    · subst k8
      have z1 : fX11_isWithin N1' (nI 8) 0 7 = some (0, N1') := by
        rw [sX11_isWithin, if_neg (by decide)]
      obtain ⟨_, P1, y1, rfl, kz1⟩ := sX2_letsRefuse rc1 okc (by omega) hg1
      obtain ⟨_, P2, y2, rfl, kz2⟩ := sX12_mayRefuse rc2 okc hc6 q2 m2 (by decide)
      rw [z1, q_b_s, if_pos rfl, if_neg (by decide), sX11_codeAt hc6, q_b_s, if_pos (kls_c hc6), y1, q_b_s] at f1
      rw [if_pos (by decide), if_pos (by decide), y2, q_b_s] at f2
      by_cases e : w_R (Cs c) (g_w B i j d u v w) = 0
      · rw [if_pos e, if_pos (show nI 0 = (0 : Int32) from rfl)] at f1 f2
        exact fin _ P1 P2 f1 f2 kz1 (kk2.tr (kz2.wd (fun a j z => by unfold S2; omega)))
      · rw [if_neg e, if_neg (by decide)] at f1 f2
        exact fin _ P1 P2 f1 f2 kz1 (kk2.tr (kz2.wd (fun a j z => by unfold S2; omega)))
    · have k7 : k < 8 := by omega
      have z1 : fX11_isWithin N1' (nI k) 0 7 = some (1, N1') := w_in N1' (n := 7) (k := k) (by decide) (by omega)
      obtain ⟨_, P1, y1, rfl, kz1⟩ := sX2_weight rc1 okc (by omega) hg1 k7
      rw [z1, q_b_s, if_neg (by decide), sX11_codeAt hc6, q_b_s, if_pos (kls_c hc6), y1, q_b_s] at f1
      by_cases k4 : k < 4
      · obtain ⟨_, P2, y2, rfl, kz2⟩ := sX12_degree rc2 okc hc6 q2 m2 (by decide) k4
        rw [if_neg (show ¬ (4 : Int32) ≤ nI k from nI_ge (b := 4) k4 (by decide)), y2, q_b_s] at f2
        exact fin _ P1 P2 f1 f2 kz1 (kk2.tr (kz2.wd (fun a j z => by unfold S2; omega)))
      · obtain ⟨_, P2, y2, rfl, kz2⟩ := sX12_takes rc2 okc hc6 q2 m2 (by decide) (k := k - 4) (by omega)
        have e4 : nI k - (4 : Int32) = nI (k - 4) := by rw [L4, pk_sub (by omega)]
        rw [if_pos (show (4 : Int32) ≤ nI k from nI_le (a := 4) (by omega) (by omega)), if_neg (show ¬ (8 : Int32) ≤ nI k from nI_ge (b := 8) k7 (by decide)), e4, y2, q_b_s, w_V0 okc, show 4 + (k - 4) = k by omega] at f2
        exact fin _ P1 P2 f1 f2 kz1 (kk2.tr (kz2.wd (fun a j z => by unfold S2; omega)))
end WEIGHS
