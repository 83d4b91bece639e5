/-! pairs: otherwise, hangs, harsh -/
theorem nI_and (a b : Nat) : nI a &&& nI b = nI (a &&& b) := by
  apply Int32.toBitVec_inj.1
  apply BitVec.eq_of_toNat_eq
  simp [nI, Int32.toBitVec_and, Int32.toBitVec_ofNat', BitVec.toNat_and, BitVec.toNat_ofNat, Nat.and_mod_two_pow]
theorem bO_bit (p : Nat → Bool) (i : Nat) : ∀ n, (bO p n).testBit i = (decide (i < n) && p i) := by
  intro n
  induction n with
  | zero =>
    rw [show bO p 0 = 0 from rfl, Nat.zero_testBit, decide_eq_false (Nat.not_lt_zero i)]
    rfl
  | succ n ih =>
    have hb := bO_lt p n
    have e : bO p (n + 1) = bO p n + if p n then 2 ^ n else 0 := rfl
    rw [e]
    by_cases c : p n = true
    · rw [if_pos c, Nat.add_comm]
      have e2 : 2 ^ n + bO p n = 2 ^ n * 1 + bO p n := by rw [Nat.mul_one]
      rw [e2, Nat.two_pow_add_eq_or_of_lt hb, Nat.mul_one, Nat.testBit_or, Nat.testBit_two_pow, ih]
      by_cases e3 : n = i
      · subst e3
        rw [c]
        simp
      · rw [decide_eq_false e3, Bool.false_or]
        by_cases e4 : i < n
        · rw [decide_eq_true e4, decide_eq_true (show i < n + 1 by omega)]
        · rw [decide_eq_false e4, decide_eq_false (show ¬ i < n + 1 by omega)]
    · rw [if_neg c, Nat.add_zero, ih]
      by_cases e4 : i = n
      · subst e4
        rw [(Bool.not_eq_true _).mp c, Bool.and_false, Bool.and_false]
      · by_cases e5 : i < n
        · rw [decide_eq_true e5, decide_eq_true (show i < n + 1 by omega)]
        · rw [decide_eq_false e5, decide_eq_false (show ¬ i < n + 1 by omega)]
theorem and_p2 (x i : Nat) : x &&& 2 ^ i = if x.testBit i then 2 ^ i else 0 := by
  apply Nat.eq_of_testBit_eq
  intro j
  rw [Nat.testBit_and, Nat.testBit_two_pow]
  by_cases e : i = j
  · subst e
    cases h : x.testBit i
    · simp
    · simp [Nat.testBit_two_pow]
  · rw [decide_eq_false e, Bool.and_false]
    cases h : x.testBit i
    · simp
    · simp [Nat.testBit_two_pow, e]
/-- what doesn't slight or take back counts as it is -/
theorem v_a_m {E : EV} {s : ST} {m : Nat} (hm : 8 ≤ m) (n n2 : Bool) : v_a E s m n = v_a E s m n2 := by
  unfold v_a
  rw [v_o_s n (fun z => by omega), v_o_s n2 (fun z => by omega)]
theorem v_hd_same {E : EV} {Q : QR} {u u2 : Nat} : ∀ (n i : Nat) (s : ST), (∀ j, i ≤ j → j < i + n → r_m Q j < 8 → u / 2 ^ j % 2 = u2 / 2 ^ j % 2) → v_hd E Q u n i s = v_hd E Q u2 n i s := by
  intro n
  induction n with
  | zero => intro i s _; rfl
  | succ n ih =>
    intro i s h
    have e : v_a E s (r_m Q i) (decide (u / 2 ^ i % 2 = 0)) = v_a E s (r_m Q i) (decide (u2 / 2 ^ i % 2 = 0)) := by
      by_cases c : r_m Q i < 8
      · rw [h i (Nat.le_refl _) (by omega) c]
      · exact v_a_m (by omega) _ _
    unfold v_hd
    rw [e]
    by_cases c : v_can E s (r_m Q i) = true
    · rw [if_pos c, if_pos c]
      exact ih (i + 1) _ (fun j h1 h2 => h j (by omega) (by omega))
    · rw [if_neg c, if_neg c]
theorem v_hD_same {E : EV} {Q : QR} {u u2 : Nat} (h0 : r_m Q 0 < 4) (hn : 0 < r_n Q) (h : ∀ j, j < r_n Q → r_m Q j < 8 → u / 2 ^ j % 2 = u2 / 2 ^ j % 2) : v_hD E Q u = v_hD E Q u2 := by
  have e0 := h 0 hn (by omega)
  rw [Nat.pow_zero, Nat.div_one, Nat.div_one] at e0
  unfold v_hD
  rw [e0]
  exact v_hd_same _ _ _ (fun j h1 h2 => h j (by omega))
section AGAIN
variable {nc k c0 c1 : Nat} {M M1 M2 : QM} {B : BK} {Cs : Nat → CD} {E : EV}
theorem sX12_again_b47 (h : v_ok nc E) {q : Nat} (hq : q < 24) {Q : QR} (hTm : ∀ i, i < r_n Q → q_a M 1000 43 (64 * q + 8 + i) = nI (r_m Q i)) (hn : r_n Q ≤ 9) (hm : ∀ k, k < r_n Q → r_m Q k < 11) {u : Nat} (hu : u < 512) : ∀ (n i f : Nat) (N : QM) (s : ST), i + n = r_n Q → n < f → PY N E c0 c1 → RST N s → v_w E s → kp SD M N →
    qV (fX12_again_b47 f N (nI q) (nI u) (nI (r_n Q)) (nI i)) (fun N1 => PY N1 E c0 c1 ∧ RST N1 (v_hd E Q u n i s) ∧ kp SD M N1) := by
  intro n
  induction n with
  | zero =>
    intro i f N s hi hf P R hs kN
    obtain ⟨f, rfl⟩ : ∃ p, f = p + 1 := ⟨f - 1, by omega⟩
    have e : i = r_n Q := hi
    subst e
    simp (disch := omega) only [fX12_again_b47, y_lit, y_lt_T, y_lt_F, y_le_T, y_le_F, y_eq_T, y_eq_F, y_in_T, y_cl, ↓reduceIte, y_bs, y_bvs, y_os, y_on, y_t, ne_eq, not_true_eq_false, not_false_eq_true, pk_mul, nI_add]
    exact qV_s ⟨P, R, kN⟩
  | succ n ih =>
    intro i f N s hi hf P R hs kN
    obtain ⟨f, rfl⟩ : ∃ p, f = p + 1 := ⟨f - 1, by omega⟩
    have h8 : q_a N 1000 43 (64 * q + 8 + i) = nI (r_m Q i) := (kN.a (by unfold SD; omega)).trans (hTm i (by omega))
    have hmi := hm i (by omega)
    have e1 : v_hd E Q u (n + 1) i s = if v_can E s (r_m Q i) then v_hd E Q u n (i + 1) (v_a E s (r_m Q i) (decide (u / 2 ^ i % 2 = 0))) else s := rfl
    rw [e1]
    have cn := sX12_can P h R hs hmi
    rw [fX12_again_b47]
    simp (disch := omega) only [y_lit, y_lt_T, y_lt_F, y_le_T, y_le_F, y_eq_T, y_eq_F, y_in_T, y_cl, ↓reduceIte, y_bs, y_bvs, y_os, y_on, y_t, ne_eq, not_true_eq_false, not_false_eq_true, pk_mul, nI_add, h8]
    rw [cn]
    by_cases c : v_can E s (r_m Q i) = true
    · obtain ⟨N2, e2, R2, k2⟩ := sX12_does P h R hs c (decide (u / 2 ^ i % 2 = 0))
      obtain ⟨N3, e3, P3, R3, k3⟩ := ih (i + 1) f N2 _ (by omega) (by omega) (P.kept k2 (fun a j z => z)) R2 (v_a_w h hs c _) (kN.tr k2)
      have hb : u / 2 ^ i % 2 < 2 := Nat.mod_lt _ (by decide)
      refine ⟨N3, ?_, P3, by rw [if_pos c]; exact R3, k3⟩
      by_cases cb : u / 2 ^ i % 2 = 0
      · simp (disch := omega) only [cb, decide_true, if_true] at e2
        simp (disch := omega) only [y_lit, y_lt_T, y_lt_F, y_le_T, y_le_F, y_eq_T, y_eq_F, y_in_T, y_cl, ↓reduceIte, y_bs, y_bvs, y_os, y_on, y_t, ne_eq, not_true_eq_false, not_false_eq_true, pk_mul, nI_add, c, if_true, h8, y_bit, cb, fX12_again_b105]
        rw [e2, q_bv_s]
        exact e3
      · simp (disch := omega) only [cb, decide_false, Bool.false_eq_true, if_false] at e2
        simp (disch := omega) only [y_lit, y_lt_T, y_lt_F, y_le_T, y_le_F, y_eq_T, y_eq_F, y_in_T, y_cl, ↓reduceIte, y_bs, y_bvs, y_os, y_on, y_t, ne_eq, not_true_eq_false, not_false_eq_true, pk_mul, nI_add, c, if_true, h8, y_bit, fX12_again_b105]
        rw [e2, q_bv_s]
        exact e3
    · rw [if_neg c]
      simp (disch := omega) only [y_lit, y_lt_T, y_lt_F, y_le_T, y_le_F, y_eq_T, y_eq_F, y_in_T, y_cl, ↓reduceIte, y_bs, y_bvs, y_os, y_on, y_t, ne_eq, not_true_eq_false, not_false_eq_true, pk_mul, nI_add, c, if_false, Bool.false_eq_true]
      exact qV_s ⟨P, R, kN⟩
theorem sX12_again (h : K2 M nc B Cs) (ok : KO nc B Cs) {q : Nat} (hq : q < b_q B) {u : Nat} (hu : u < 512) : qV (fX12_again M (nI q) (nI u)) (fun N => PY N (eQ B Cs (b_r B q)) (r_c (b_r B q) 0) (r_c (b_r B q) 1) ∧ RST N (v_hD (eQ B Cs (b_r B q)) (b_r B q) u) ∧ kp (fun a j => SD a j ∨ SQ a j) M N) := by
  have h24 := ok.1.2.1
  have hQ := ok.q hq
  have hv := ok.v hQ.b
  have hn0 : 0 < r_n (b_r B q) := hQ.2.2.2.2.2.2.1
  have hn9 : r_n (b_r B q) ≤ 9 := hQ.2.2.2.2.2.2.2.1
  have hm : ∀ k, k < r_n (b_r B q) → r_m (b_r B q) k < 11 := fun k hk => (hQ.2.2.2.2.2.2.2.2.1 k hk).1
  have hm0 := (ok.2.2.2 q hq).1
  obtain ⟨t0, t1, t2, t3, t4, t5, t6, t7, t8⟩ := h.1.2.2.2 q hq
  obtain ⟨N1, e1, P1, k1⟩ := sX12_party h ok (by omega) hQ.b t0 t1 t2 t3 t4
  have hT : ∀ i, q_a N1 1000 43 i = q_a M 1000 43 i := fun i => k1.a (by unfold SQ; omega)
  have t5' : q_a N1 1000 43 (64 * q + 5) = nI (r_n (b_r B q)) := (hT _).trans t5
  have t8' : ∀ i, i < r_n (b_r B q) → q_a N1 1000 43 (64 * q + 8 + i) = nI (r_m (b_r B q) i) := fun i hi => (hT _).trans (t8 i hi).1
  have t80 : q_a N1 1000 43 (64 * q + 8) = nI (r_m (b_r B q) 0) := t8' 0 hn0
  obtain ⟨N2, e2, R2, k2⟩ := sX12_slightsFirst P1 hv hm0 (decide (u % 2 = 0))
  obtain ⟨N3, e3, P3, R3, k3⟩ := sX12_again_b47 hv (q := q) (by omega) (M := N2) (fun i hi => (k2.a (by unfold SD; omega)).trans (t8' i hi)) hn9 hm hu (r_n (b_r B q) - 1) 1 q_F N2 _ (by omega) (q_Fn (by omega)) (P1.kept k2 (fun a j z => z)) R2 (v_1w hv _ _) kp.rf
  have eu : nI u &&& nI 1 = nI (u % 2) := pk_andN (by omega) 1 (by decide)
  have hb : u % 2 < 2 := Nat.mod_lt _ (by decide)
  refine ⟨N3, ?_, P3, R3, (k1.wd (fun _ _ z => Or.inr z)).tr ((k2.tr k3).wd (fun _ _ z => Or.inl z))⟩
  have b41 : fX12_again_b41 N1 (nI q) (nI u) (nI (r_n (b_r B q))) (nI (if decide (u % 2 = 0) then 1 else 0)) (nI (r_m (b_r B q) 0)) = some N3 := by
    unfold fX12_again_b41
    rw [e2, q_bv_s]
    exact e3
  unfold fX12_again
  rw [e1, q_bv_s]
  by_cases cb : u % 2 = 0
  · simp (disch := omega) only [cb, decide_true, if_true] at b41
    simp (disch := omega) only [y_lit, y_lt_T, y_lt_F, y_le_T, y_le_F, y_eq_T, y_eq_F, y_in_T, y_cl, ↓reduceIte, y_bs, y_bvs, y_os, y_on, y_t, ne_eq, not_true_eq_false, not_false_eq_true, pk_mul, nI_add, t5', t80, eu, cb]
    exact b41
  · simp (disch := omega) only [cb, decide_false, Bool.false_eq_true, if_false] at b41
    simp (disch := omega) only [y_lit, y_lt_T, y_lt_F, y_le_T, y_le_F, y_eq_T, y_eq_F, y_in_T, y_cl, ↓reduceIte, y_bs, y_bvs, y_os, y_on, y_t, ne_eq, not_true_eq_false, not_false_eq_true, pk_mul, nI_add, t5', t80, eu]
    exact b41
theorem SDQ_2 {a j : Nat} (h : SD a j ∨ SQ a j) : S2 a j := by
  rcases h with h | h
  · exact SD_2 h
  · exact SQ_2 h
end AGAIN
section OTHERWISE
variable {nc k c0 c1 : Nat} {M M1 M2 : QM} {B : BK} {Cs : Nat → CD} {E : EV}
/-- the game is begun anew, and goes from a state -/
theorem sX3_fresh {a g : Nat} (h : v_ok nc E) (A : AF M E c0 c1) (mA : MA M a) (ha : a < 2000000000) (hG : MG M g) (hg : g < 1000000) {s : ST} (hs : v_w E s) : qW (q_bv (fX3_begin M) fun M41 => q_b (fX3_outcomeFrom M41 (s_p s)) fun r43 M44 => some (r43, M44)) (fun r N => r = nI (v_G E s).2 ∧ AF N E c0 c1 ∧ MA N a ∧ GA N E (g + 1) ∧ kp (fun x j => SG x j ∨ x = 5) M N) := by
  obtain ⟨N, e, G, k1⟩ := sX3_begin hG (by omega) E
  obtain ⟨_, N2, e2, rfl, A2, m2, G2, k2⟩ := sX3_outcomeFrom h ha (by omega) hs (A.kept k1 (fun x j z => Or.inl z.1)) (mA.kept k1 (by decide) (by decide)) G
  refine ⟨nI (v_G E s).2, N2, ?_, rfl, A2, m2, G2, (k1.wd (fun x j z => Or.inr z.1)).tr (k2.wd (fun x j z => Or.inl z))⟩
  rw [e, q_bv_s, e2, q_b_s]
theorem sX11_otherwise_b91 {a g : Nat} (h : v_ok nc E) (ha : a < 2000000000) (hg : g < 1000000) {o : Nat} (ho : 100 ≤ o) {Q : QR} (hR : RQ1 M o Q) (hn : r_n Q ≤ 9) (hm : ∀ k, k < r_n Q → r_m Q k < 11) : ∀ (n i q : Nat) (N : QM) (s : ST), i + n = r_n Q → n < q → AF N E c0 c1 → MA N a → MG N g → kp SA M N → v_w E s →
    qW (fX11_otherwise_b91 q N o (s_p s) (nI i)) (fun r N1 => r = nI (v_G E (v_hd E Q 0 n i s)).2 ∧ AF N1 E c0 c1 ∧ MA N1 a ∧ GA N1 E (g + 1) ∧ kp (fun x j => SG x j ∨ x = 5) M N1) := by
  intro n
  induction n with
  | zero =>
    intro i q N s hi hq A hA hG kN hs
    obtain ⟨q, rfl⟩ : ∃ p, q = p + 1 := ⟨q - 1, by omega⟩
    have e : i = r_n Q := hi
    subst e
    have h7 : q_i N o 7 = nI (r_n Q) := (kN.i (fun z => by have := z.no; omega)).trans hR.2.2.2.2.2.1
    obtain ⟨r, N2, e2, g1, g2, g3, g4, g5⟩ := sX3_fresh h A hA ha hG hg hs
    refine ⟨r, N2, ?_, g1, g2, g3, g4, (kN.wd (fun x j z => Or.inl (Or.inl z))).tr g5⟩
    rw [fX11_otherwise_b91, h7, if_pos (nI_le (Nat.le_refl _) (by omega))]
    exact e2
  | succ n ih =>
    intro i q N s hi hq A hA hG kN hs
    obtain ⟨q, rfl⟩ : ∃ p, q = p + 1 := ⟨q - 1, by omega⟩
    have hRN : RQ1 N o Q := hR.kept kN (fun j z => by have := z.no; omega)
    have h7 := hRN.2.2.2.2.2.1
    have hmi := hm i (by omega)
    have e1 : v_hd E Q 0 (n + 1) i s = if v_can E s (r_m Q i) then v_hd E Q 0 n (i + 1) (v_a E s (r_m Q i) (decide (0 / 2 ^ i % 2 = 0))) else s := rfl
    rw [Nat.zero_div] at e1
    have e1 : v_hd E Q 0 (n + 1) i s = if v_can E s (r_m Q i) then v_hd E Q 0 n (i + 1) (v_a E s (r_m Q i) true) else s := e1
    rw [e1]
    have al := sX0_allows h A hs.1 hmi
    have mv := sX4_moveAt hRN hn (show i < r_n Q by omega)
    by_cases c : v_can E s (r_m Q i) = true
    · rw [if_pos c] at al
      rw [if_pos c]
      obtain ⟨_, N2, e2, rfl, A2, m2, k2⟩ := sX0_after h A hA (by omega) hs c true
      obtain ⟨r, N3, e3, g3⟩ := ih (i + 1) q N2 _ (by omega) (by omega) A2 m2 (hG.kept k2 (fun j z => by unfold SA at z; omega)) (kN.tr k2) (v_a_w h hs c _)
      refine ⟨r, N3, ?_, g3⟩
      have e2' : fX0_after N (s_p s) (nI (r_m Q i)) 1 = some (s_p (v_a E s (r_m Q i) true), N2) := e2
      rw [fX11_otherwise_b91, h7, if_neg (nI_ge (by omega) (by omega)), mv, q_b_s, al, q_b_s, if_neg (by decide), mv, q_b_s, e2', q_b_s, L1, nI_add]
      exact e3
    · rw [if_neg c] at al
      rw [if_neg c]
      obtain ⟨r, N2, e2, g1, g2, g3, g4, g5⟩ := sX3_fresh h A hA ha hG hg hs
      refine ⟨r, N2, ?_, g1, g2, g3, g4, (kN.wd (fun x j z => Or.inl (Or.inl z))).tr g5⟩
      rw [fX11_otherwise_b91, h7, if_neg (nI_ge (by omega) (by omega)), mv, q_b_s, al, q_b_s, if_pos (show nI 0 = (0 : Int32) from rfl)]
      exact e2
theorem sX12_otherwise_b75 (h : v_ok nc E) {q : Nat} (hq : q < 24) {Q : QR} (hT5 : q_a M 1000 43 (64 * q + 5) = nI (r_n Q)) (hTm : ∀ i, i < r_n Q → q_a M 1000 43 (64 * q + 8 + i) = nI (r_m Q i)) (hn : r_n Q ≤ 9) (hm : ∀ k, k < r_n Q → r_m Q k < 11) : ∀ (n i f : Nat) (N : QM) (s : ST), i + n = r_n Q → n < f → PY N E c0 c1 → RST N s → v_w E s → kp SD M N →
    qW (fX12_otherwise_b75 f N (nI q) (nI i)) (fun r N1 => r = nI (v_G E (v_hd E Q 0 n i s)).2 ∧ kp SV M N1) := by
  intro n
  induction n with
  | zero =>
    intro i f N s hi hf P R hs kN
    obtain ⟨f, rfl⟩ : ∃ p, f = p + 1 := ⟨f - 1, by omega⟩
    have e : i = r_n Q := hi
    subst e
    have h5 : q_a N 1000 43 (64 * q + 5) = nI (r_n Q) := (kN.a (by unfold SD; omega)).trans hT5
    obtain ⟨_, N2, e2, rfl, P2, k2⟩ := sX12_plays h P R hs
    simp (disch := omega) only [fX12_otherwise_b75, y_lit, y_lt_T, y_lt_F, y_le_T, y_le_F, y_eq_T, y_eq_F, y_in_T, y_cl, ↓reduceIte, y_bs, y_bvs, y_os, y_on, y_t, ne_eq, not_true_eq_false, not_false_eq_true, pk_mul, nI_add, h5, fX12_otherwise_b139]
    rw [e2, q_b_s]
    exact qW_s ⟨rfl, (kN.wd (fun a j z => SD_V z)).tr k2⟩
  | succ n ih =>
    intro i f N s hi hf P R hs kN
    obtain ⟨f, rfl⟩ : ∃ p, f = p + 1 := ⟨f - 1, by omega⟩
    have h5 : q_a N 1000 43 (64 * q + 5) = nI (r_n Q) := (kN.a (by unfold SD; omega)).trans hT5
    have h8 : q_a N 1000 43 (64 * q + 8 + i) = nI (r_m Q i) := (kN.a (by unfold SD; omega)).trans (hTm i (by omega))
    have hmi := hm i (by omega)
    have e1 : v_hd E Q 0 (n + 1) i s = if v_can E s (r_m Q i) then v_hd E Q 0 n (i + 1) (v_a E s (r_m Q i) (decide (0 / 2 ^ i % 2 = 0))) else s := rfl
    rw [Nat.zero_div] at e1
    have e1 : v_hd E Q 0 (n + 1) i s = if v_can E s (r_m Q i) then v_hd E Q 0 n (i + 1) (v_a E s (r_m Q i) true) else s := e1
    rw [e1]
    have cn := sX12_can P h R hs hmi
    rw [fX12_otherwise_b75]
    simp (disch := omega) only [y_lit, y_lt_T, y_lt_F, y_le_T, y_le_F, y_eq_T, y_eq_F, y_in_T, y_cl, ↓reduceIte, y_bs, y_bvs, y_os, y_on, y_t, ne_eq, not_true_eq_false, not_false_eq_true, pk_mul, nI_add, h5, h8]
    rw [cn]
    by_cases c : v_can E s (r_m Q i) = true
    · rw [if_pos c]
      obtain ⟨N2, e2, R2, k2⟩ := sX12_does P h R hs c true
      have e2' : fX12_does N (nI (r_m Q i)) (nI 1) = some N2 := e2
      simp (disch := omega) only [y_lit, y_lt_T, y_lt_F, y_le_T, y_le_F, y_eq_T, y_eq_F, y_in_T, y_cl, ↓reduceIte, y_bs, y_bvs, y_os, y_on, y_t, ne_eq, not_true_eq_false, not_false_eq_true, pk_mul, nI_add, c, if_true, h8]
      rw [e2', q_bv_s]
      exact ih (i + 1) f N2 _ (by omega) (by omega) (P.kept k2 (fun a j z => z)) R2 (v_a_w h hs c _) (kN.tr k2)
    · rw [if_neg c]
      obtain ⟨_, N2, e2, rfl, P2, k2⟩ := sX12_plays h P R hs
      simp (disch := omega) only [y_lit, y_lt_T, y_lt_F, y_le_T, y_le_F, y_eq_T, y_eq_F, y_in_T, y_cl, ↓reduceIte, y_bs, y_bvs, y_os, y_on, y_t, ne_eq, not_true_eq_false, not_false_eq_true, pk_mul, nI_add, c, if_false, Bool.false_eq_true, fX12_otherwise_b139]
      rw [e2, q_b_s]
      exact qW_s ⟨rfl, (kN.wd (fun a j z => SD_V z)).tr k2⟩
theorem pair_otherwise (h1 : K1 M1 nc B Cs) (h2 : K2 M2 nc B Cs) (ok : KO nc B Cs) (hM : MK M1 k) (hk : k < 1000) (x y z : Int32) : LG M1 M2 k (fX11_otherwise M1 x y z) (fX12_otherwise M2 x y z) := by
  have h24 := ok.1.2.1
  have no : fX11_otherwise M1 x y z = some (-nI 1, M1) → fX12_otherwise M2 x y z = some (-nI 1, M2) → LG M1 M2 k (fX11_otherwise M1 x y z) (fX12_otherwise M2 x y z) := fun e1 e2 => ⟨_, _, _, e1, e2, kp.rf, kp.rf, hM.up⟩
  rcases q_out_or x (n := b_q B) (by omega) with ox | ⟨q, hq, rfl⟩
  · refine no ?_ ?_
    · unfold fX11_otherwise
      rw [sX1_quarrelAtO h1.1 ox, q_b_s, q_o_n]
      rfl
    · unfold fX12_otherwise
      rw [sX12_isQuarrelO h2.1 ox, q_b_s, if_pos rfl]
      rfl
  have g1 := sX1_quarrelAt h1.1 h24 hq
  have g2 := sX12_isQuarrel h2.1 h24 hq
  have hQ := ok.q hq
  have hR := h1.1.2.2.2 q hq
  have hv := ok.v hQ.b
  have hn0 : 0 < r_n (b_r B q) := hQ.2.2.2.2.2.2.1
  have hn9 : r_n (b_r B q) ≤ 9 := hQ.2.2.2.2.2.2.2.1
  have hm : ∀ k, k < r_n (b_r B q) → r_m (b_r B q) k < 11 := fun k hk => (hQ.2.2.2.2.2.2.2.2.1 k hk).1
  have h7 := hR.2.2.2.2.2.1
  have t5 : q_a M2 1000 43 (64 * q + 5) = nI (r_n (b_r B q)) := (h2.1.2.2.2 q hq).2.2.2.2.2.1
  have es : nI (r_n (b_r B q)) - nI 1 = nI (r_n (b_r B q) - 1) := pk_sub (by omega)
  have f1 : fX11_otherwise M1 (nI q) y z = if y < (1 : Int32) then some ((-1 : Int32), M1) else if nI (r_n (b_r B q)) ≤ y then some ((-1 : Int32), M1) else (q_b (fX11_isWithin M1 z (0 : Int32) (10 : Int32)) fun r7 M8 => if r7 ≠ (0 : Int32) then (q_bv (fX11_study M8 (el 20 5 q)) fun M11 => (q_b (fX4_stateAt M11 (el 20 5 q) (y - (1 : Int32))) fun r13 M14 => (q_b (fX0_allows M14 r13 z) fun r16 M17 => if r16 ≠ (0 : Int32) then (q_b (fX0_after M17 r13 z (1 : Int32)) fun r19 M20 => (fX11_otherwise_b91 q_F M20 (el 20 5 q) r19 (y + (1 : Int32)))) else some ((-2 : Int32), M17)))) else some ((-1 : Int32), M8)) := by
    unfold fX11_otherwise
    rw [g1, q_b_s, q_o_s, if_pos (kls_q (by omega)), h7]
  have f2 : fX12_otherwise M2 (nI q) y z = (q_b (fX12_in M2 (Int32.toInt64 y) (1 : Int64) (Int32.toInt64 (nI (r_n (b_r B q) - 1)))) fun r7 M8 => if r7 = (0 : Int32) then some ((-1 : Int32), M8) else (q_b (fX12_in M8 (Int32.toInt64 z) (0 : Int64) (10 : Int64)) fun r10 M11 => if r10 ≠ (0 : Int32) then (q_bv (fX12_load M11 (nI q) (y - (1 : Int32))) fun M14 => (q_b (fX12_can M14 z) fun r16 M17 => if r16 ≠ (0 : Int32) then (q_bv (fX12_does M17 z (1 : Int32)) fun M20 => (fX12_otherwise_b75 q_F M20 (nI q) (y + (1 : Int32)))) else some ((-2 : Int32), M17))) else some ((-1 : Int32), M11))) := by
    unfold fX12_otherwise
    rw [g2, q_b_s, if_neg (by decide)]
    rw [show (64 : Int32) * nI q + (5 : Int32) = nI (64 * q + 5) by rw [L64, L5, pk_mul, nI_add], if_pos (q_inN (by omega) (by decide)), nI_cl (by omega), t5, y_t, L1, es]
  rw [show (1 : Int64) = lN 1 from rfl, nI_l (by omega), sX12_in _ _ _ _ (by decide) (by omega), q_b_s] at f2
  by_cases cy : ¬ (nI 1 ≤ y ∧ y ≤ nI (r_n (b_r B q) - 1))
  · refine no ?_ ?_
    · rw [f1]
      by_cases c1 : y < (1 : Int32)
      · rw [if_pos c1]; rfl
      · rw [if_neg c1]
        have c1' : nI 1 ≤ y := Int32.not_lt.mp c1
        have c2 : ¬ y ≤ nI (r_n (b_r B q) - 1) := fun z => cy ⟨c1', z⟩
        have hy : nI (r_n (b_r B q)) ≤ y := by
          rw [Int32.le_iff_toInt_le, nI_toInt (by omega)] at c2 ⊢
          omega
        rw [if_pos hy]
        rfl
    · rw [f2, if_neg cy, if_pos rfl]
      rfl
  have cy := Classical.not_not.mp cy
  obtain ⟨i, hi1, hi2, rfl⟩ : ∃ i, 1 ≤ i ∧ i < r_n (b_r B q) ∧ y = nI i := by
    have h0 : ¬ y < 0 := fun z => by
      have h1 := cy.1
      rw [Int32.le_iff_toInt_le, nI_toInt (by decide)] at h1
      rw [Int32.lt_iff_toInt_lt] at z
      have : (0 : Int32).toInt = 0 := by decide
      omega
    obtain ⟨j, hj, rfl⟩ := nI_of h0
    have a1 := (nI_leI (by decide) hj).mp cy.1
    have a2 := (nI_leI hj (by omega)).mp cy.2
    exact ⟨j, a1, by omega, rfl⟩
  have ei : nI i - nI 1 = nI (i - 1) := pk_sub hi1
  rw [if_neg (show ¬ nI i < (1 : Int32) from nI_nlt hi1 (by omega)), if_neg (show ¬ nI (r_n (b_r B q)) ≤ nI i from nI_ge hi2 (by omega)), L1, ei, nI_add] at f1
  rw [if_pos cy, if_neg (by decide), L1, ei, nI_add] at f2
  rcases q_out_or z (n := 11) (by decide) with o | ⟨m, hm11, rfl⟩
  · have z1 : fX11_isWithin M1 z 0 10 = some (0, M1) := w_out M1 (show 10 < 1000000 by decide) o
    have z2 : fX12_in M2 (Int32.toInt64 z) 0 10 = some (0, M2) := v_out M2 (show 10 < 1000000 by decide) o
    refine no ?_ ?_
    · rw [f1, z1, q_b_s, if_neg (by decide)]
    · rw [f2, z2, q_b_s, if_neg (by decide)]
  have y1 : fX11_isWithin M1 (nI m) 0 10 = some (1, M1) := w_in M1 (n := 10) (k := m) (by decide) (by omega)
  have y2 : fX12_in M2 (Int32.toInt64 (nI m)) 0 10 = some (1, M2) := v_in M2 (n := 10) (k := m) (by decide) (by omega)
  have eo : el 20 5 q = 100 + q := by rw [el_qN (by decide)]
  have hw : v_w (eQ B Cs (b_r B q)) (r_s (b_r B q) (i - 1)) := (ok.2.2.2 q hq).w ok hQ (by omega)
  obtain ⟨⟨a, ha, hA⟩, ⟨g, hg, hG⟩, v, hv2, hW⟩ := hM
  obtain ⟨N1, e1, A1, m1, k1⟩ := sX11_study h1 ok hR hQ.b hA (by omega)
  have hRN : RQ1 N1 (el 20 5 q) (b_r B q) := hR.kept k1 (fun j z => by unfold SS at z; omega)
  have G1 := hG.kept k1 (fun j z => by unfold SS at z; omega)
  have W1 := hW.kept k1 (fun j z => by unfold SS at z; omega)
  obtain ⟨N2, e2, P, R, k2⟩ := sX12_load h2 ok hq (k := i - 1) (by omega)
  have al := sX0_allows hv A1 hw.1 hm11
  have cn := sX12_can P hv R hw hm11
  rw [y1, q_b_s, if_pos (by decide), e1, q_bv_s, sX4_stateAt hRN hn9 (by omega), q_b_s, al, q_b_s] at f1
  rw [y2, q_b_s, if_pos (by decide), e2, q_bv_s, cn, q_b_s] at f2
  by_cases c : ¬ v_can (eQ B Cs (b_r B q)) (r_s (b_r B q) (i - 1)) m = true
  · rw [if_neg c, if_neg (by decide)] at f1 f2
    exact ⟨-2, N1, N2, f1, f2, k1.wd (fun x j z => S1_5 (SS_1 z)), k2, ⟨a + 1, by omega, m1⟩, ⟨g, by omega, G1⟩, v, by omega, W1⟩
  have c := Classical.not_not.mp c
  obtain ⟨_, N3, e3, rfl, A3, m3, k3⟩ := sX0_after hv A1 m1 (by omega) hw c true
  obtain ⟨N4, e4, R4, k4⟩ := sX12_does P hv R hw c true
  have hw2 := v_a_w hv hw c true
  have hR3 : RQ1 N3 (el 20 5 q) (b_r B q) := hRN.kept k3 (fun j z => by have := z.no; omega)
  obtain ⟨_, P1, d1, rfl, A5, m5, G5, k5⟩ := sX11_otherwise_b91 hv (by omega) (by omega) (g := g) (o := el 20 5 q) (by omega) hR3 hn9 hm (r_n (b_r B q) - (i + 1)) (i + 1) q_F N3 _ (by omega) (q_Fn (by omega)) A3 m3 (G1.kept k3 (fun j z => by unfold SA at z; omega)) kp.rf hw2
  have hT : ∀ j, q_a N4 1000 43 j = q_a M2 1000 43 j := fun j => (k4.a (by unfold SD; omega)).trans (k2.a (by unfold S2; omega))
  have tt := RQ2.T (h2.1.2.2.2 q hq) hT
  obtain ⟨_, P2, d2, rfl, k6⟩ := sX12_otherwise_b75 hv (q := q) (by omega) tt.1 tt.2 hn9 hm (r_n (b_r B q) - (i + 1)) (i + 1) q_F N4 _ (by omega) (q_Fn (by omega)) (P.kept k4 (fun a j z => z)) R4 hw2 kp.rf
  have e3' : fX0_after N1 (s_p (r_s (b_r B q) (i - 1))) (nI m) (nI 1) = some (s_p (v_a (eQ B Cs (b_r B q)) (r_s (b_r B q) (i - 1)) m true), N3) := e3
  have e4' : fX12_does N2 (nI m) (nI 1) = some N4 := e4
  rw [if_pos c, if_pos (by decide), e3', q_b_s, d1] at f1
  rw [if_pos c, if_pos (by decide), e4', q_bv_s, d2] at f2
  refine ⟨_, P1, P2, f1, f2, ((k1.wd (fun x j z => S1_5 (SS_1 z))).tr (k3.wd (fun x j z => S1_5 (SA_1 z)))).tr (k5.wd (fun x j z => ?_)), (k2.tr (k4.wd (fun a j z => SD_2 z))).tr (k6.wd (fun a j z => SV_2 z)), ⟨a + 1, by omega, m5⟩, ⟨g + 1, by omega, G5.m⟩, v, by omega, (W1.kept k3 (fun j z => by unfold SA at z; omega)).kept k5 (fun j z => by unfold SG SA at z; omega)⟩
  rcases z with z | z
  · exact SG_5 z
  · exact Or.inr (Or.inl z)
end OTHERWISE
