/-! the class's set, heard, reckoned, spoken -/
def SS (a j : Nat) : Prop := a = 4 ∨ ((a = 8 ∨ a = 9) ∧ j = 0)
/-- the history gone over again from move i on -/
def v_hd (E : EV) (Q : QR) (u : Nat) : Nat → Nat → ST → ST
  | 0, _, s => s
  | n + 1, i, s => if v_can E s (r_m Q i) then v_hd E Q u n (i + 1) (v_a E s (r_m Q i) (decide (u / 2 ^ i % 2 = 0))) else s
def v_hD (E : EV) (Q : QR) (u : Nat) : ST := v_hd E Q u (r_n Q - 1) 1 (v_1 E (r_m Q 0) (decide (u % 2 = 0)))
def v_ch (o m w : Nat) : Nat := if m < 4 then min 15 (o + w) else o - w
/-- what is owed by one code alone, behind move i on -/
def v_rk (E : EV) (Q : QR) (who : Nat) : Nat → Nat → Nat → Nat → Nat × Nat
  | 0, _, x, y => (x, y)
  | n + 1, i, x, y => if 8 ≤ r_m Q i then v_rk E Q who n (i + 1) x y
    else if i % 2 = 0 then v_rk E Q who n (i + 1) x (v_ch y (r_m Q i) (w_v (v_c E who) (v_g E 0 y x (i - 1)) (r_m Q i)))
    else v_rk E Q who n (i + 1) (v_ch x (r_m Q i) (w_v (v_c E who) (v_g E 1 x y (i - 1)) (r_m Q i))) y
theorem v_ch_lt {o m w : Nat} (h : o < 16) : v_ch o m w < 16 := by
  unfold v_ch
  split <;> omega
theorem v_hd_w {nc : Nat} {E : EV} (h : v_ok nc E) (Q : QR) (u : Nat) : ∀ (n i : Nat) (s : ST), v_w E s → v_w E (v_hd E Q u n i s) := by
  intro n
  induction n with
  | zero => intro i s hs; exact hs
  | succ n ih =>
    intro i s hs
    unfold v_hd
    by_cases c : v_can E s (r_m Q i) = true
    · rw [if_pos c]
      exact ih _ _ (v_a_w h hs c _)
    · rw [if_neg c]
      exact hs
theorem v_hD_w {nc : Nat} {E : EV} (h : v_ok nc E) (Q : QR) (u : Nat) : v_w E (v_hD E Q u) := v_hd_w h Q u _ _ _ (v_1w h _ _)
/-- the moves that slight or take back, as bits -/
def r_b (Q : QR) : Nat → Nat
  | 0 => 0
  | n + 1 => r_b Q n + if r_m Q n < 8 then 2 ^ n else 0
theorem r_b_lt (Q : QR) : ∀ n, r_b Q n < 2 ^ n := by
  intro n
  induction n with
  | zero => exact Nat.one_pos
  | succ n ih =>
    have := Nat.pow_succ 2 n
    unfold r_b
    split <;> omega
theorem SA.no {a j : Nat} (h : SA a j) : a < 20 := by
  unfold SA at h
  omega
section SETC
variable {nc c0 c1 a np : Nat} {M : QM} {E : EV}
theorem sX0_set {B : BK} {p0 p1 d : Nat} {C0 C1 : CD} (h1 : RB1 M 20 B) (h : v_ok nc (B, (p0, p1, d), (C0, C1), 0)) (hc0 : c0 < 6) (hc1 : c1 < 6) (r0 : RC1 M (10 + c0) C0) (r1 : RC1 M (10 + c1) C1) (hA : MA M a) (ha : a < 2000000000) :
    qV (fX0_set M 20 (nI p0) (nI p1) (nI d) (10 + c0) (10 + c1)) (fun N => AF N (B, (p0, p1, d), (C0, C1), 0) c0 c1 ∧ MA N (a + 1) ∧ kp SS M N) := by
  have hB : b_ok nc B := h.1
  have hp0 : p0 < b_n B := h.2.1
  have hp1 : p1 < b_n B := h.2.2.1
  unfold fX0_set
  refine qV_bv (qV.to (sX6_turnTo (so := 8) h1 hB (by decide) hp0 hp1 d) (fun N1 g1 => ?_))
  obtain ⟨w1, k1⟩ := g1
  have h1N : RB1 N1 20 B := h1.kept k1 (by decide) (fun x j z => by omega)
  refine qV_bv (qV.to (sX6_turnTo (so := 9) h1N hB (by decide) hp1 hp0 d) (fun N2 g2 => ?_))
  obtain ⟨w2, k2⟩ := g2
  have kk : kp SS M N2 := (k1.wd (fun x j z => by unfold SS; omega)).tr (k2.wd (fun x j z => by unfold SS; omega))
  have q0 : RC1 N2 (10 + c0) C0 := r0.any kk (fun j z => by unfold SS at z; omega)
  have q1 : RC1 N2 (10 + c1) C1 := r1.any kk (fun j z => by unfold SS at z; omega)
  have e0 : q_i N2 (10 + c0) 10 = nI (c_h C0) := q0.2.2.1
  have e1 : q_i N2 (10 + c1) 10 = nI (c_h C1) := q1.2.2.1
  have b0 : c_h C0 < 9 := (h.c (k := 0) (by decide)).2.2.1
  have b1 : c_h C1 < 9 := (h.c (k := 1) (by decide)).2.2.1
  have m8 : q_i N2 4 8 = nI a := (k2.i (by omega)).trans ((k1.i (by omega)).trans hA.1)
  have m7 : ∀ i, i < 4096 → ∃ b, b ≤ a ∧ q_a N2 4 7 i = nI b := fun i hi => by
    rw [k2.a (by omega), k1.a (by omega)]
    exact hA.2 i hi
  simp (disch := omega) only [y_lit, y_lt_T, y_lt_F, y_le_T, y_le_F, y_eq_T, y_eq_F, y_in_T, y_cl, ↓reduceIte, y_bs, y_bvs, y_os, y_on, y_t, ne_eq, not_true_eq_false, not_false_eq_true, pk_mul, nI_add, y_ii, y_ia, y_il, y_ir, y_ai, y_aa, y_al, y_ar, y_li, y_la, y_ll, y_lr, y_ri, y_ra, y_rl, y_rr, and_true, true_and, and_false, false_and, and_self, if_true, if_false, Nat.reduceEqDiff, reduceCtorEq, or_false, false_or, or_true, true_or, e0, e1, m8]
  have ev : (if nI (c_h C1) < nI (c_h C0) then nI (c_h C1) else nI (c_h C0)) = nI (v_h (B, (p0, p1, d), (C0, C1), 0)) := by
    show _ = nI (if c_h C1 < c_h C0 then c_h C1 else c_h C0)
    by_cases c : c_h C1 < c_h C0
    · rw [if_pos (nI_lt c (by omega)), if_pos c]
    · rw [if_neg (nI_nlt (by omega) (by omega)), if_neg c]
  refine qV_s ⟨⟨hc0, hc1, ?_, ?_, fun k hk => ?_, fun k hk w hw => ?_, ?_, ⟨0, by decide, ?_, fun k hk i hi => ?_⟩, fun s hs h0 he => ?_⟩, ⟨?_, fun i hi => ?_⟩, ?_⟩
  · simp [q_r_p_i, q_r_p_r]
  · simp [q_r_p_i, q_r_p_r]
  · have KI : ∀ (M : QM) (j : Nat) (v : Int32), kp (fun x _ => x = 4) M (p_i M 4 j v) := fun M j v => kp_i rfl
    have KR : ∀ (M : QM) (j : Nat) (v : Nat), kp (fun x _ => x = 4) M (p_r M 4 j v) := fun M j v => kp_r rfl
    have kz := (KR N2 2 (10 + c0)).tr ((KR _ 3 (10 + c1)).tr ((KI _ 4 (if nI (c_h C1) < nI (c_h C0) then nI (c_h C1) else nI (c_h C0))).tr ((KI _ 5 (nI 0)).tr (KI _ 8 (nI (a + 1))))))
    match k, hk with
    | 0, _ => exact q0.any kz (fun j z => by have z : 10 + c0 = 4 := z; omega)
    | 1, _ => exact q1.any kz (fun j z => by have z : 10 + c1 = 4 := z; omega)
  · simp only [q_a_p_i, q_a_p_r]
    match k, hk with
    | 0, _ => exact (k2.a (by omega)).trans (w1 w hw)
    | 1, _ => exact w2 w hw
  · simp [q_i_p_i]
    exact ev
  · simp [q_i_p_i]
  · rw [Nat.zero_div]
    show 0 = if c_s (v_c (B, (p0, p1, d), (C0, C1), 0) k) i = 1 then 0 / 2 ^ _ % 2 else 0
    rw [Nat.zero_div]
    split <;> rfl
  · simp [q_a_p_i, q_a_p_r, q_i_p_i] at he
    obtain ⟨b, hb, eb⟩ := m7 _ (s_sl hs.1)
    rw [eb] at he
    have := (nI_eq (by omega) (by omega)).mp he
    omega
  · simp [q_i_p_i]
  · simp [q_a_p_i, q_a_p_r]
    obtain ⟨b, hb, eb⟩ := m7 i hi
    exact ⟨b, by omega, eb⟩
  · exact kk.tr ((kp_r (Or.inl rfl)).tr ((kp_r (Or.inl rfl)).tr ((kp_i (Or.inl rfl)).tr ((kp_i (Or.inl rfl)).tr (kp_i (Or.inl rfl))))))
/-- some back clauses are raised -/
theorem AF.raise {B : BK} {p : Nat × Nat × Nat} {C : CD × CD} {m0 m R : Nat} (A : AF M (B, p, C, m0) c0 c1) (hR : R < 2 ^ 14) (hz : ∀ k, k < 2 → rz (v_c (B, p, C, m0) k) m R) : AF (p_i M 4 5 (nI R)) (B, p, C, m) c0 c1 := by
  obtain ⟨h1, h2, h3, h4, h5, h6, h7, -, h11⟩ := A
  have hc : ∀ k, c_e c0 c1 k < 6 := fun k => by unfold c_e; split <;> omega
  refine ⟨h1, h2, h3, h4, fun k hk => (h5 k hk).any (kp_i (S := fun x _ => x = 4) rfl) (fun j z => by have := hc k; omega), h6, ?_, ⟨R, hR, ?_, hz⟩, fun s hs h0 he => ?_⟩
  · rw [q_i_p_i, if_neg (by decide)]
    exact h7
  · rw [q_i_p_i, if_pos ⟨rfl, rfl⟩]
  · rw [q_i_p_i, if_neg (by decide)] at he
    exact h11 s hs h0 he
theorem sX4_spoken_b4 {o : Nat} {Q : QR} (hR : RQ1 M o Q) (hn : r_n Q ≤ 9) (hm : ∀ k, k < r_n Q → r_m Q k < 11) : ∀ (n i q : Nat), i + n = r_n Q → n < q → fX4_spoken_b4 q M o (nI (r_b Q i)) (nI i) = some (nI (r_b Q (r_n Q)), M) := by
  have h7 := hR.2.2.2.2.2.1
  intro n
  induction n with
  | zero =>
    intro i q hi hq
    obtain ⟨q, rfl⟩ : ∃ p, q = p + 1 := ⟨q - 1, by omega⟩
    have e : i = r_n Q := hi
    subst e
    simp (disch := omega) only [fX4_spoken_b4, y_lit, y_lt_T, y_lt_F, y_le_T, y_le_F, y_eq_T, y_eq_F, y_in_T, y_cl, ↓reduceIte, y_bs, y_bvs, y_os, y_on, y_t, ne_eq, not_true_eq_false, not_false_eq_true, pk_mul, nI_add, h7]
  | succ n ih =>
    intro i q hi hq
    obtain ⟨q, rfl⟩ : ∃ p, q = p + 1 := ⟨q - 1, by omega⟩
    have e0 := (hR.2.2.2.2.2.2 i (by omega)).1
    have hm := hm i (by omega)
    have nx := ih (i + 1) q (by omega) (by omega)
    have eb : r_b Q (i + 1) = r_b Q i + if r_m Q i < 8 then 2 ^ i else 0 := rfl
    by_cases c : r_m Q i < 8
    · rw [if_pos c] at eb
      have e2 : nI 1 <<< (nI i &&& nI 31) = nI (2 ^ i) := bit31 i (by omega)
      have e3 : nI (r_b Q i) ||| nI (2 ^ i) = nI (r_b Q (i + 1)) := by
        have := nI_orS (b := 1) (r_b_lt Q i)
        rw [Nat.one_mul] at this
        rw [this, eb]
      simp (disch := omega) only [fX4_spoken_b4, fX4_spoken_b35, y_lit, y_lt_T, y_lt_F, y_le_T, y_le_F, y_eq_T, y_eq_F, y_in_T, y_cl, ↓reduceIte, y_bs, y_bvs, y_os, y_on, y_t, ne_eq, not_true_eq_false, not_false_eq_true, pk_mul, nI_add, h7, e0, e2, e3]
      exact nx
    · rw [if_neg c, Nat.add_zero] at eb
      rw [eb] at nx
      simp (disch := omega) only [fX4_spoken_b4, fX4_spoken_b35, y_lit, y_lt_T, y_lt_F, y_le_T, y_le_F, y_eq_T, y_eq_F, y_in_T, y_cl, ↓reduceIte, y_bs, y_bvs, y_os, y_on, y_t, ne_eq, not_true_eq_false, not_false_eq_true, pk_mul, nI_add, h7, e0]
      exact nx
theorem sX4_spoken {o : Nat} {Q : QR} (hR : RQ1 M o Q) (hn : r_n Q ≤ 9) (hm : ∀ k, k < r_n Q → r_m Q k < 11) : fX4_spoken M o = some (nI (r_b Q (r_n Q)), M) := by
  unfold fX4_spoken
  rw [nI0]
  exact sX4_spoken_b4 hR hn hm (r_n Q) 0 q_F (by omega) (q_Fn (by omega))
/-- heard -/
theorem sX0_heard_b24 (h : v_ok nc E) (ha : a < 2147483648) {o : Nat} (ho : 100 ≤ o) {Q : QR} (hR : RQ1 M o Q) (hn : r_n Q ≤ 9) (hm : ∀ k, k < r_n Q → r_m Q k < 11) {u : Nat} (hu : u < 512) : ∀ (n i q : Nat) (N : QM) (s : ST), i + n = r_n Q → n < q → AF N E c0 c1 → MA N a → kp SA M N → v_w E s →
    qW (fX0_heard_b24 q N o (nI u) (s_p s) (nI i)) (fun r N1 => r = s_p (v_hd E Q u n i s) ∧ AF N1 E c0 c1 ∧ MA N1 a ∧ kp SA M N1) := by
  intro n
  induction n with
  | zero =>
    intro i q N s hi hq A hA k hs
    obtain ⟨q, rfl⟩ : ∃ p, q = p + 1 := ⟨q - 1, by omega⟩
    have e : i = r_n Q := hi
    subst e
    have h7 : q_i N o 7 = nI (r_n Q) := (k.i (fun z => by have := z.no; omega)).trans hR.2.2.2.2.2.1
    simp (disch := omega) only [fX0_heard_b24, y_lit, y_lt_T, y_lt_F, y_le_T, y_le_F, y_eq_T, y_eq_F, y_in_T, y_cl, ↓reduceIte, y_bs, y_bvs, y_os, y_on, y_t, ne_eq, not_true_eq_false, not_false_eq_true, pk_mul, nI_add, h7]
    exact qW_s ⟨rfl, A, hA, k⟩
  | succ n ih =>
    intro i q N s hi hq A hA k hs
    obtain ⟨q, rfl⟩ : ∃ p, q = p + 1 := ⟨q - 1, by omega⟩
    have hRN : RQ1 N o Q := hR.kept k (fun j z => by have := z.no; omega)
    have h7 := hRN.2.2.2.2.2.1
    have hmi := hm i (by omega)
    have e1 : v_hd E Q u (n + 1) i s = if v_can E s (r_m Q i) then v_hd E Q u n (i + 1) (v_a E s (r_m Q i) (decide (u / 2 ^ i % 2 = 0))) else s := rfl
    rw [e1]
    by_cases c : v_can E s (r_m Q i) = true
    · rw [if_pos c]
      have hb : u / 2 ^ i % 2 < 2 := Nat.mod_lt _ (by decide)
      have go : qW (fX0_heard_b69 (fun M o1 x2 x3 x4 => fX0_heard_b24 q M o1 x2 x3 x4) N o (nI u) (nI i) (nI (if decide (u / 2 ^ i % 2 = 0) then 1 else 0)) (nI (r_m Q i)) (s_p s)) (fun r N1 => r = s_p (v_hd E Q u n (i + 1) (v_a E s (r_m Q i) (decide (u / 2 ^ i % 2 = 0)))) ∧ AF N1 E c0 c1 ∧ MA N1 a ∧ kp SA M N1) := by
        unfold fX0_heard_b69
        refine qW_k (sX0_after h A hA ha hs c _) (fun r N1 g1 => ?_)
        obtain ⟨rfl, A1, A2, k1⟩ := g1
        rw [L1, nI_add]
        exact ih (i + 1) q N1 _ (by omega) (by omega) A1 A2 (k.tr k1) (v_a_w h hs c _)
      by_cases cb : u / 2 ^ i % 2 = 0
      · simp (disch := omega) only [fX0_heard_b24, y_lit, y_lt_T, y_lt_F, y_le_T, y_le_F, y_eq_T, y_eq_F, y_in_T, y_cl, ↓reduceIte, y_bs, y_bvs, y_os, y_on, y_t, ne_eq, not_true_eq_false, not_false_eq_true, pk_mul, nI_add, h7, sX4_moveAt hRN hn (show i < r_n Q by omega), sX0_allows h A hs.1 hmi, c, if_true, y_bit, cb, decide_true] at go ⊢
        exact go
      · simp (disch := omega) only [fX0_heard_b24, y_lit, y_lt_T, y_lt_F, y_le_T, y_le_F, y_eq_T, y_eq_F, y_in_T, y_cl, ↓reduceIte, y_bs, y_bvs, y_os, y_on, y_t, ne_eq, not_true_eq_false, not_false_eq_true, pk_mul, nI_add, h7, sX4_moveAt hRN hn (show i < r_n Q by omega), sX0_allows h A hs.1 hmi, c, if_true, y_bit, cb, decide_false, Bool.false_eq_true, if_false] at go ⊢
        exact go
    · rw [if_neg c]
      simp (disch := omega) only [fX0_heard_b24, y_lit, y_lt_T, y_lt_F, y_le_T, y_le_F, y_eq_T, y_eq_F, y_in_T, y_cl, ↓reduceIte, y_bs, y_bvs, y_os, y_on, y_t, ne_eq, not_true_eq_false, not_false_eq_true, pk_mul, nI_add, h7, sX4_moveAt hRN hn (show i < r_n Q by omega), sX0_allows h A hs.1 hmi, c, if_false]
      exact qW_s ⟨rfl, A, hA, k⟩
theorem sX0_heard_b17 (h : v_ok nc E) (A : AF M E c0 c1) (hA : MA M a) (ha : a < 2147483648) {o : Nat} (ho : 100 ≤ o) {Q : QR} (hR : RQ1 M o Q) (hn0 : 0 < r_n Q) (hn : r_n Q ≤ 9) (hm : ∀ k, k < r_n Q → r_m Q k < 11) (hm0 : r_m Q 0 < 4) {u : Nat} (hu : u < 512) :
    qW (fX0_heard_b17 M o (nI u) (nI (if decide (u % 2 = 0) then 1 else 0)) (nI (r_m Q 0))) (fun r N1 => r = s_p (v_hD E Q u) ∧ AF N1 E c0 c1 ∧ MA N1 a ∧ kp SA M N1) := by
  unfold fX0_heard_b17
  rw [L1]
  refine qW_k (sX0_open h A hA hm0 _) (fun r N1 g1 => ?_)
  obtain ⟨e, A1, A2, k1⟩ := g1
  rw [e]
  exact sX0_heard_b24 h ha ho hR hn hm hu (r_n Q - 1) 1 q_F N1 (v_1 E (r_m Q 0) (decide (u % 2 = 0))) (by omega) (q_Fn (by omega)) A1 A2 k1 (v_1w h _ _)
theorem sX0_heard (h : v_ok nc E) (A : AF M E c0 c1) (hA : MA M a) (ha : a < 2147483648) {o : Nat} (ho : 100 ≤ o) {Q : QR} (hR : RQ1 M o Q) (hn0 : 0 < r_n Q) (hn : r_n Q ≤ 9) (hm : ∀ k, k < r_n Q → r_m Q k < 11) (hm0 : r_m Q 0 < 4) {u : Nat} (hu : u < 512) :
    qW (fX0_heard M o (nI u)) (fun r N1 => r = s_p (v_hD E Q u) ∧ AF N1 E c0 c1 ∧ MA N1 a ∧ kp SA M N1) := by
  have e1 : nI u &&& nI 1 = nI (u % 2) := pk_andN (by omega) 1 (by decide)
  have hb : u % 2 < 2 := Nat.mod_lt _ (by decide)
  have go := sX0_heard_b17 h A hA ha ho hR hn0 hn hm hm0 hu
  unfold fX0_heard
  have e0 := sX4_moveAt hR hn hn0
  by_cases cb : u % 2 = 0
  · simp (disch := omega) only [y_lit, y_lt_T, y_lt_F, y_le_T, y_le_F, y_eq_T, y_eq_F, y_in_T, y_cl, ↓reduceIte, y_bs, y_bvs, y_os, y_on, y_t, ne_eq, not_true_eq_false, not_false_eq_true, pk_mul, nI_add, e0, e1, cb, decide_true, if_true] at go ⊢
    exact go
  · simp (disch := omega) only [y_lit, y_lt_T, y_lt_F, y_le_T, y_le_F, y_eq_T, y_eq_F, y_in_T, y_cl, ↓reduceIte, y_bs, y_bvs, y_os, y_on, y_t, ne_eq, not_true_eq_false, not_false_eq_true, pk_mul, nI_add, e0, e1, cb, decide_false, Bool.false_eq_true, if_false] at go ⊢
    exact go
end SETC
