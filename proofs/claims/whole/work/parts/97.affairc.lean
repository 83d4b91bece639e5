/-! the class's affair -/
def SA (a j : Nat) : Prop := (a = 4 ∧ (j = 6 ∨ j = 7)) ∨ ((a = 8 ∨ a = 9) ∧ j = 0) ∨ (10 ≤ a ∧ a < 20 ∧ j = 6)
/-- what a look at a state sees -/
def lk (E : EV) (s : ST) (v : Int32) : Prop := (s_k s = 0 → ∃ V, v = nI V ∧ V < 2 ^ 32 ∧ ∀ x, x < 8 → V / 2 ^ (4 * x) % 16 = w_N (v_c E (1 - s_t s)) (v_s E s) x) ∧ (s_k s ≠ 0 → v = nI (if w_R (v_c E (1 - s_t s)) (v_s E s) = 0 then 0 else 1))
/-- bits of back clauses as bits of clauses -/
def rz (C : CD) (m R : Nat) : Prop := ∀ i, i < c_n C → R / 2 ^ i % 2 = if c_s C i = 1 then m / 2 ^ c_b C i % 2 else 0
def c_e (c0 c1 k : Nat) : Nat := if k = 0 then c0 else c1
def AF (M : QM) (E : EV) (c0 c1 : Nat) : Prop := c0 < 6 ∧ c1 < 6 ∧ q_r M 4 2 = 10 + c0 ∧ q_r M 4 3 = 10 + c1 ∧ (∀ k, k < 2 → RC1 M (10 + c_e c0 c1 k) (v_c E k)) ∧ (∀ k, k < 2 → ∀ w, w < 7 → q_a M (8 + k) 0 w = v_g E k 0 0 0 w) ∧ q_i M 4 4 = nI (v_h E) ∧
  (∃ R, R < 2 ^ 14 ∧ q_i M 4 5 = nI R ∧ ∀ k, k < 2 → rz (v_c E k) (v_m E) R) ∧ ∀ s, v_w E s → s_e s = 0 → q_a M 4 7 (s_s s) = q_i M 4 8 → lk E s (q_a M 4 6 (s_s s))
def MA (M : QM) (a : Nat) : Prop := q_i M 4 8 = nI a ∧ ∀ i, i < 4096 → ∃ b, b ≤ a ∧ q_a M 4 7 i = nI b
theorem kls_c {c : Nat} (h : c < 6) : kls (10 + c) = 2 := by
  have : ∀ c, c < 6 → kls (10 + c) = 2 := by decide
  exact this c h
theorem RC1.any {M : QM} {o : Nat} {C : CD} (h : RC1 M o C) {S : Nat → Nat → Prop} {N : QM} (k : kp S M N) (hS : ∀ j, S o j → j = 6) : RC1 N o C := by
  have no : ∀ {j : Nat}, j ≠ 6 → ¬ S o j := fun h z => h (hS _ z)
  unfold RC1 at h ⊢
  rw [k.i (no (by decide)), k.i (no (by decide)), k.i (no (by decide)), k.i (no (by decide))]
  refine ⟨h.1, h.2.1, h.2.2.1, h.2.2.2.1, fun i hi => ?_, fun j hj => (k.a (no (by decide))).trans (h.2.2.2.2.2 j hj)⟩
  rw [k.a (no (by decide)), k.a (no (by decide)), k.a (no (by decide)), k.a (no (by decide)), k.a (no (by decide))]
  exact h.2.2.2.2.1 i hi
/-- what doesn't touch the affair keeps it -/
theorem AF.kept {M N : QM} {E : EV} {c0 c1 : Nat} (h : AF M E c0 c1) {S : Nat → Nat → Prop} (k : kp S M N) (hS : ∀ a j, S a j → a = 5 ∨ a = 6 ∨ a = 7 ∨ 20 ≤ a) : AF N E c0 c1 := by
  have no : ∀ {a j : Nat}, (a = 4 ∨ (8 ≤ a ∧ a < 20)) → ¬ S a j := fun h z => by have := hS _ _ z; omega
  obtain ⟨h1, h2, h3, h4, h5, h6, h7, ⟨R, h8, h9, h10⟩, h11⟩ := h
  have hc : ∀ k, c_e c0 c1 k < 6 := fun k => by unfold c_e; split <;> omega
  refine ⟨h1, h2, (k.r (no (by omega))).trans h3, (k.r (no (by omega))).trans h4, fun q hq => (h5 q hq).any k (fun j z => absurd z (no (by have := hc q; omega))), fun q hq w hw => (k.a (no (by omega))).trans (h6 q hq w hw), (k.i (no (by omega))).trans h7, ⟨R, h8, (k.i (no (by omega))).trans h9, h10⟩, fun s hs h0 he => ?_⟩
  rw [k.a (no (by omega)), k.i (no (by omega))] at he
  rw [k.a (no (by omega))]
  exact h11 s hs h0 he
theorem MA.kept {M N : QM} {a : Nat} (h : MA M a) {S : Nat → Nat → Prop} (k : kp S M N) (h7 : ¬ S 4 7) (h8 : ¬ S 4 8) : MA N a :=
  ⟨(k.i h8).trans h.1, fun i hi => by rw [k.a h7]; exact h.2 i hi⟩
theorem g_w7 (B : BK) (h p d a b c x y z : Nat) {w : Nat} (hw : w < 7) : g_w B h p d a b c w = g_w B h p d x y z w := by
  rcases w7 hw with e | e | e | e | e | e | e <;> subst e <;> rfl
section AFFAIR
variable {nc c0 c1 a : Nat} {M : QM} {E : EV}
theorem AF.code (A : AF M E c0 c1) {k : Nat} (hk : k < 2) : fX0_codeOf M (nI k) = some (10 + c_e c0 c1 k, M) := by
  unfold fX0_codeOf
  match k, hk with
  | 0, _ =>
    rw [if_neg (by decide), A.2.2.1]
    rfl
  | 1, _ =>
    rw [if_pos (by decide), A.2.2.2.1]
    rfl
theorem c_e_lt (A : AF M E c0 c1) (k : Nat) : c_e c0 c1 k < 6 := by
  have h0 := A.1
  have h1 := A.2.1
  unfold c_e
  split <;> omega
/-- the cache is told anew at one state -/
theorem AF.seen (h : v_ok nc E) {M0 : QM} (A : AF M0 E c0 c1) {t : Nat} (ht : t < 2) {o : Nat} (ho : 10 ≤ o) (ho2 : o < 20) (k : kp (fun x j => (x = 8 + t ∧ j = 0) ∨ (x = o ∧ j = 6)) M0 M) (hw : ∀ w, w < 7 → q_a M (8 + t) 0 w = q_a M0 (8 + t) 0 w) {s : ST} (hs : v_w E s) (h0 : s_e s = 0) {v : Int32} (hv : lk E s v) :
    AF (p_a (p_a M 4 7 (s_s s) (q_i M 4 8)) 4 6 (s_s s) v) E c0 c1 := by
  have no : ∀ {j : Nat}, ¬ ((4 = 8 + t ∧ j = 0) ∨ (4 = o ∧ j = 6)) := fun z => by omega
  have hc := c_e_lt A
  obtain ⟨h1, h2, h3, h4, h5, h6, h7, ⟨R, h8, h9, h10⟩, h11⟩ := A
  refine ⟨h1, h2, (k.r no).trans h3, (k.r no).trans h4, fun q hq => ?_, fun q hq w hw7 => ?_, (k.i no).trans h7, ⟨R, h8, (k.i no).trans h9, h10⟩, fun u hu hu0 he => ?_⟩
  · have := (h5 q hq).any k (fun j z => by have := hc q; omega)
    exact this.any (kp.tr (kp_a (S := fun x _ => x = 4) rfl) (kp_a (S := fun x _ => x = 4) rfl)) (fun j z => by have := hc q; omega)
  · rw [q_a_p_a, if_neg (by omega), q_a_p_a, if_neg (by omega)]
    by_cases e : q = t
    · subst e
      exact (hw w hw7).trans (h6 q hq w hw7)
    · exact (k.a (fun z => by omega)).trans (h6 q hq w hw7)
  · simp only [q_a_p_a, q_i_p_a] at he ⊢
    by_cases e : s_s u = s_s s
    · have eq := s_s_inj h hu hs hu0 h0 e
      subst eq
      simp
      exact hv
    · simp [e] at he ⊢
      rw [k.a no, k.i no] at he
      rw [k.a no]
      exact h11 u hu hu0 he
theorem sX0_look_b114 (h : v_ok nc E) {M0 : QM} (A : AF M0 E c0 c1) (hA : MA M0 a) {t : Nat} (ht : t < 2) {o : Nat} (ho : 10 ≤ o) (ho2 : o < 20) (k : kp (fun x j => (x = 8 + t ∧ j = 0) ∨ (x = o ∧ j = 6)) M0 M) (hw : ∀ w, w < 7 → q_a M (8 + t) 0 w = q_a M0 (8 + t) 0 w) {s : ST} (hs : v_w E s) (h0 : s_e s = 0) {v : Int32} (hv : lk E s v) :
    qW (fX0_look_b114 M (nI (s_s s)) v) (fun r N => lk E s r ∧ AF N E c0 c1 ∧ MA N a ∧ kp SA M0 N) := by
  have hsl := s_sl hs.1
  have no : ∀ {j : Nat}, ¬ ((4 = 8 + t ∧ j = 0) ∨ (4 = o ∧ j = 6)) := fun z => by omega
  unfold fX0_look_b114
  simp (disch := omega) only [y_lit, y_lt_T, y_lt_F, y_le_T, y_le_F, y_eq_T, y_eq_F, y_in_T, y_cl, ↓reduceIte, y_bs, y_bvs, y_os, y_on, y_t, ne_eq, not_true_eq_false, not_false_eq_true, pk_mul, nI_add]
  refine qW_s ⟨hv, AF.seen h A ht ho ho2 k hw hs h0 hv, ⟨(k.i no).trans hA.1, fun i hi => ?_⟩, (k.wd (fun x j z => ?_)).tr (kp.tr (kp_a (Or.inl ⟨rfl, Or.inr rfl⟩)) (kp_a (Or.inl ⟨rfl, Or.inl rfl⟩)))⟩
  · simp only [q_a_p_a]
    by_cases e : i = s_s s
    · simp [e]
      exact ⟨a, Nat.le_refl _, (k.i no).trans hA.1⟩
    · simp [e]
      rw [k.a no]
      exact hA.2 i hi
  · unfold SA
    omega
theorem sX0_look (h : v_ok nc E) (A : AF M E c0 c1) (hA : MA M a) (ha : a < 2147483648) {s : ST} (hs : v_w E s) (h0 : s_e s = 0) : qW (fX0_look M (s_p s)) (fun r N => lk E s r ∧ AF N E c0 c1 ∧ MA N a ∧ kp SA M N) := by
  have hsl := s_sl hs.1
  have ht : s_t s < 2 := hs.1.2.2.2.1
  have hk3 : s_k s < 3 := hs.1.2.2.2.2.1
  have hl : s_l s < 16 := hs.1.2.2.1
  obtain ⟨w1, w2, w3, w4, w5⟩ := hs.2 h0
  have hh := v_h_le h
  obtain ⟨b, hb, eb⟩ := hA.2 _ hsl
  have go : qW (fX0_look_b45 M (s_p s) (nI (s_s s)) (nI (s_t s)) (8 + s_t s)) (fun r N => lk E s r ∧ AF N E c0 c1 ∧ MA N a ∧ kp SA M N) := by
    have e1 : (1 : Int32) - nI (s_t s) = nI (1 - s_t s) := by rw [L1, pk_sub (by omega)]
    have h7 : q_i M 4 4 = nI (v_h E) := A.2.2.2.2.2.2.1
    have e2 : nI (v_h E) - nI (s_l s) = nI (v_h E - s_l s) := pk_sub w3
    have hc := c_e_lt A (1 - s_t s)
    have hRC := A.2.2.2.2.1 (1 - s_t s) (by omega)
    unfold fX0_look_b45
    rw [e1, A.code (by omega), q_b_s, if_pos (kls_c hc), sX7_owed M hs.1 (by omega), q_b_s, sX7_owed M hs.1 ht, q_b_s, sX7_left M hs.1, q_b_s, h7, e2]
    refine qW_kv (sX6_setHour M (8 + s_t s) _ _ _) (fun N g1 => ?_)
    obtain ⟨v7, v8, v9, vw, k1⟩ := g1
    have hRCN : RC1 N (10 + c_e c0 c1 (1 - s_t s)) (v_c E (1 - s_t s)) := hRC.any k1 (fun j z => by omega)
    have hg : ∀ w, w < 10 → q_a N (8 + s_t s) 0 w = v_s E s w := fun w hw => by
      by_cases e : w < 7
      · rw [vw w e, A.2.2.2.2.2.1 _ ht w e]
        exact g_w7 _ _ _ _ _ _ _ _ _ _ e
      · have : w = 7 ∨ w = 8 ∨ w = 9 := by omega
        rcases this with e | e | e <;> subst e
        · exact v7
        · exact v8
        · exact v9
    have k2 : ∀ {N1 : QM}, kp (fun x j => x = 10 + c_e c0 c1 (1 - s_t s) ∧ j = 6) N N1 → kp (fun x j => (x = 8 + s_t s ∧ j = 0) ∨ (x = 10 + c_e c0 c1 (1 - s_t s) ∧ j = 6)) M N1 := fun k => (k1.wd (fun _ _ z => Or.inl z)).tr (k.wd (fun _ _ z => Or.inr z))
    have hw2 : ∀ {N1 : QM}, kp (fun x j => x = 10 + c_e c0 c1 (1 - s_t s) ∧ j = 6) N N1 → ∀ w, w < 7 → q_a N1 (8 + s_t s) 0 w = q_a M (8 + s_t s) 0 w := fun k w hw => (k.a (fun z => by omega)).trans (vw w hw)
    rw [sX7_asked N hs.1, q_b_s]
    by_cases c : s_k s = 0
    · rw [if_neg (by rw [c]; decide)]
      refine qW_k (sX2_weighing hRCN (h.c (by omega)) (by omega) hg) (fun r N1 g2 => ?_)
      exact sX0_look_b114 h A hA ht (by omega) (by omega) (k2 g2.2) (hw2 g2.2) hs h0 ⟨fun _ => g2.1, fun z => absurd c z⟩
    · rw [if_pos (nI_ne0 (by omega) (by omega))]
      refine qW_k (sX2_letsRefuse hRCN (h.c (by omega)) (by omega) hg) (fun r N1 g2 => ?_)
      obtain ⟨rfl, k3⟩ := g2
      by_cases e : w_R (v_c E (1 - s_t s)) (v_s E s) = 0
      · rw [if_pos e, if_pos (by decide)]
        exact sX0_look_b114 (v := nI 0) h A hA ht (by omega) (by omega) (k2 k3) (hw2 k3) hs h0 ⟨fun z => absurd z c, fun _ => by rw [if_pos e]⟩
      · rw [if_neg e, if_neg (by decide)]
        exact sX0_look_b114 (v := nI 1) h A hA ht (by omega) (by omega) (k2 k3) (hw2 k3) hs h0 ⟨fun z => absurd z c, fun _ => by rw [if_neg e]⟩
  unfold fX0_look
  rw [sX7_spot M hs.1]
  simp (disch := omega) only [y_lit, y_lt_T, y_lt_F, y_le_T, y_le_F, y_eq_T, y_eq_F, y_in_T, y_cl, ↓reduceIte, y_bs, y_bvs, y_os, y_on, y_t, ne_eq, not_true_eq_false, not_false_eq_true, pk_mul, nI_add, hA.1, eb]
  by_cases e : b = a
  · subst e
    simp (disch := omega) only [y_lit, y_lt_T, y_lt_F, y_le_T, y_le_F, y_eq_T, y_eq_F, y_in_T, y_cl, ↓reduceIte, y_bs, y_bvs, y_os, y_on, y_t, ne_eq, not_true_eq_false, not_false_eq_true, pk_mul, nI_add]
    exact qW_s ⟨A.2.2.2.2.2.2.2.2 s hs h0 (by rw [eb, hA.1]), A, hA, kp.rf⟩
  · simp (disch := omega) only [y_lit, y_lt_T, y_lt_F, y_le_T, y_le_F, y_eq_T, y_eq_F, y_in_T, y_cl, ↓reduceIte, y_bs, y_bvs, y_os, y_on, y_t, ne_eq, not_true_eq_false, not_false_eq_true, pk_mul, nI_add, sX7_turn M hs.1]
    by_cases et : s_t s = 0
    · rw [et] at go ⊢
      simp (disch := omega) only [y_lit, y_lt_T, y_lt_F, y_le_T, y_le_F, y_eq_T, y_eq_F, y_in_T, y_cl, ↓reduceIte, y_bs, y_bvs, y_os, y_on, y_t, ne_eq, not_true_eq_false, not_false_eq_true, pk_mul, nI_add]
      exact go
    · rw [show s_t s = 1 by omega] at go ⊢
      simp (disch := omega) only [y_lit, y_lt_T, y_lt_F, y_le_T, y_le_F, y_eq_T, y_eq_F, y_in_T, y_cl, ↓reduceIte, y_bs, y_bvs, y_os, y_on, y_t, ne_eq, not_true_eq_false, not_false_eq_true, pk_mul, nI_add]
      exact go
end AFFAIR
