/-! the reference's affair: who meets, the state that stands, can, does -/
def SD (a j : Nat) : Prop := a = 1000 ∧ ((14 ≤ j ∧ j ≤ 24) ∨ (30 ≤ j ∧ j ≤ 35))
def PY (M : QM) (E : EV) (c0 c1 : Nat) : Prop := c0 < 6 ∧ c1 < 6 ∧ RM2 M (v_B E) ∧ (∀ k, k < 2 → RC2 M (c_e c0 c1 k) (v_c E k)) ∧ (∀ k, k < 2 → q_a M 1000 26 k = nI (v_p E k) ∧ q_a M 1000 27 k = nI (c_e c0 c1 k)) ∧ q_i M 1000 28 = nI (v_d E) ∧ q_i M 1000 29 = nI (v_h E) ∧ q_i M 1000 25 = nI (v_m E)
def RST (M : QM) (s : ST) : Prop := (∀ k, k < 2 → q_a M 1000 30 k = nI (s_o s k)) ∧ (s_e s = 0 → q_i M 1000 31 = nI (s_t s)) ∧ q_i M 1000 32 = nI (s_k s) - nI 1 ∧ q_i M 1000 33 = nI (s_l s) ∧ q_i M 1000 34 = nI (s_e s) ∧ q_i M 1000 35 = nI (s_z s)
theorem RM2.kept {S : Nat → Nat → Prop} {M N : QM} {B : BK} (h : RM2 M B) (k : kp S M N) (hS : ∀ j, S 1000 j → j ≠ 0 ∧ j ≠ 1 ∧ j ≠ 2 ∧ j ≠ 42 ∧ j ≠ 43) : RM2 N B := by
  have n0 : ¬ S 1000 0 := fun z => (hS 0 z).1 rfl
  have n1 : ¬ S 1000 1 := fun z => (hS 1 z).2.1 rfl
  have n2 : ¬ S 1000 2 := fun z => (hS 2 z).2.2.1 rfl
  have n4 : ¬ S 1000 42 := fun z => (hS 42 z).2.2.2.1 rfl
  have n5 : ¬ S 1000 43 := fun z => (hS 43 z).2.2.2.2 rfl
  have e1 : (fun i => q_a N 1000 1 i) = (fun i => q_a M 1000 1 i) := funext fun i => k.a n1
  have e2 : (fun i => q_a N 1000 2 i) = (fun i => q_a M 1000 2 i) := funext fun i => k.a n2
  have e5 : (fun i => q_a N 1000 43 i) = (fun i => q_a M 1000 43 i) := funext fun i => k.a n5
  unfold RM2 at h ⊢
  rw [e1, e2, e5, k.i n0, k.i n4]
  exact h
theorem SDo {a j : Nat} (h : SD a j) : a = 1000 ∧ 14 ≤ j ∧ j ≤ 41 := by
  unfold SD at h
  omega
theorem PY.kept {S : Nat → Nat → Prop} {M N : QM} {E : EV} {c0 c1 : Nat} (P : PY M E c0 c1) (k : kp S M N) (hS : ∀ a j, S a j → SD a j) : PY N E c0 c1 := by
  have no : ∀ {j : Nat}, 25 ≤ j → j ≤ 29 → ¬ S 1000 j := fun h1 h2 z => by have z := hS _ _ z; unfold SD at z; omega
  obtain ⟨h1, h2, h3, h4, h5, h6, h7, h8⟩ := P
  refine ⟨h1, h2, h3.kept k (fun j z => by have z := hS _ _ z; unfold SD at z; omega), fun q hq => (h4 q hq).kept (k.wd (fun a j z => SDo (hS a j z))), fun q hq => ?_, (k.i (no (by decide) (by decide))).trans h6, (k.i (no (by decide) (by decide))).trans h7, (k.i (no (by decide) (by decide))).trans h8⟩
  rw [k.a (no (by decide) (by decide)), k.a (no (by decide) (by decide))]
  exact h5 q hq
theorem RST.kept {S : Nat → Nat → Prop} {M N : QM} {s : ST} (R : RST M s) (k : kp S M N) (hS : ∀ j, S 1000 j → j < 30 ∨ 35 < j) : RST N s := by
  have no : ∀ {j : Nat}, 30 ≤ j → j ≤ 35 → ¬ S 1000 j := fun h1 h2 z => by have z := hS _ z; omega
  obtain ⟨h1, h2, h3, h4, h5, h6⟩ := R
  refine ⟨fun q hq => (k.a (no (by decide) (by decide))).trans (h1 q hq), fun e => (k.i (no (by decide) (by decide))).trans (h2 e), (k.i (no (by decide) (by decide))).trans h3, (k.i (no (by decide) (by decide))).trans h4, (k.i (no (by decide) (by decide))).trans h5, (k.i (no (by decide) (by decide))).trans h6⟩
section MODELA
variable {nc c0 c1 : Nat} {M : QM} {E : EV}
theorem sX12_spokenC (P : PY M E c0 c1) (h : v_ok nc E) {t x y l : Nat} (ht : t < 2) (e31 : q_i M 1000 31 = nI t) (ex : q_a M 1000 30 (1 - t) = nI x) (ey : q_a M 1000 30 t = nI y) (el : q_i M 1000 33 = nI l) (hl : l ≤ v_h E) : qV (fX12_spoken M) (fun N => (∀ w, w < 10 → q_a N 1000 22 w = v_g E t x y (v_h E - l) w) ∧ kp (fun a j => a = 1000 ∧ j = 22) M N) := by
  have e1 : nI 1 - nI t = nI (1 - t) := pk_sub (by omega)
  have e2 : nI (v_h E) - nI l = nI (v_h E - l) := pk_sub hl
  have p1 := (P.2.2.2.2.1 t ht).1
  have p2 := (P.2.2.2.2.1 (1 - t) (by omega)).1
  unfold fX12_spoken
  simp (disch := omega) only [y_lit, y_lt_T, y_lt_F, y_le_T, y_le_F, y_eq_T, y_eq_F, y_in_T, y_cl, ↓reduceIte, y_bs, y_bvs, y_os, y_on, y_t, ne_eq, not_true_eq_false, not_false_eq_true, pk_mul, nI_add, e31, e1, p1, p2, ex, ey, el, P.2.2.2.2.2.1, P.2.2.2.2.2.2.1, e2]
  refine qV_bv (qV.to (sX12_words P.2.2.1 h.1 (h.p ht) (h.p (k := 1 - t) (by omega)) _ _ _ _) (fun N g => ?_))
  exact qV_s g
theorem sX12_spoken (P : PY M E c0 c1) (h : v_ok nc E) {s : ST} (R : RST M s) (hs : v_w E s) (h0 : s_e s = 0) : qV (fX12_spoken M) (fun N => (∀ w, w < 10 → q_a N 1000 22 w = v_s E s w) ∧ kp (fun a j => a = 1000 ∧ j = 22) M N) := by
  have ht : s_t s < 2 := hs.1.2.2.2.1
  exact sX12_spokenC P h ht (R.2.1 h0) (R.1 (1 - s_t s) (by omega)) (R.1 _ ht) R.2.2.2.1 (hs.2 h0).2.2.1
theorem y_m1_lt (k : Nat) (h : k < 1000) : (nI 0 ≤ nI k - nI 1) = (k ≠ 0) := by
  apply propext
  by_cases e : k = 0
  · subst e
    exact ⟨fun z => absurd z (by decide), fun z => absurd rfl z⟩
  · rw [pk_sub (by omega)]
    exact ⟨fun _ => e, fun _ => nI_le (Nat.zero_le _) (by omega)⟩
theorem sX12_isPeace {a b k : Nat} (ha : a < 16) (hb : b < 16) (hk : k < 3) (ea : q_a M 1000 30 0 = nI a) (eb : q_a M 1000 30 1 = nI b) (ek : q_i M 1000 32 = nI k - nI 1) : fX12_isPeace M = some (nI (if a = 0 ∧ b = 0 ∧ k = 0 then 1 else 0), M) := by
  unfold fX12_isPeace
  by_cases c1 : a = 0
  · by_cases c2 : b = 0
    · by_cases c3 : k = 0
      · simp (disch := omega) only [y_lit, y_lt_T, y_lt_F, y_le_T, y_le_F, y_eq_T, y_eq_F, y_in_T, y_cl, ↓reduceIte, y_bs, y_bvs, y_os, y_on, y_t, ne_eq, not_true_eq_false, not_false_eq_true, pk_mul, nI_add, ea, eb, ek, y_m1_lt, c1, c2, c3, and_self, if_true]
      · simp (disch := omega) only [y_lit, y_lt_T, y_lt_F, y_le_T, y_le_F, y_eq_T, y_eq_F, y_in_T, y_cl, ↓reduceIte, y_bs, y_bvs, y_os, y_on, y_t, ne_eq, not_true_eq_false, not_false_eq_true, pk_mul, nI_add, ea, eb, ek, y_m1_lt, c1, c2, c3, and_self, and_false, if_false]
    · simp (disch := omega) only [y_lit, y_lt_T, y_lt_F, y_le_T, y_le_F, y_eq_T, y_eq_F, y_in_T, y_cl, ↓reduceIte, y_bs, y_bvs, y_os, y_on, y_t, ne_eq, not_true_eq_false, not_false_eq_true, pk_mul, nI_add, ea, eb, c2, false_and, and_false, if_false]
  · simp (disch := omega) only [y_lit, y_lt_T, y_lt_F, y_le_T, y_le_F, y_eq_T, y_eq_F, y_in_T, y_cl, ↓reduceIte, y_bs, y_bvs, y_os, y_on, y_t, ne_eq, not_true_eq_false, not_false_eq_true, pk_mul, nI_add, ea, c1, false_and, if_false]
theorem sX12_can (P : PY M E c0 c1) (h : v_ok nc E) {s : ST} (R : RST M s) (hs : v_w E s) {m : Nat} (hm : m < 11) : fX12_can M (nI m) = some (nI (if v_can E s m then 1 else 0), M) := by
  have ht : s_t s < 2 := hs.1.2.2.2.1
  have hk3 : s_k s < 3 := hs.1.2.2.2.2.1
  have he : s_e s < 5 := hs.1.2.2.2.2.2.1
  have e34 := R.2.2.2.2.1
  have key : ∀ b : Bool, v_can E s m = b → fX12_can M (nI m) = some (nI (if b then 1 else 0), M) → fX12_can M (nI m) = some (nI (if v_can E s m then 1 else 0), M) := fun b q g => by rw [q]; exact g
  have nope : ¬ (s_e s = 0 ∧ m < 11 ∧ ((s_k s = 0 ∧ (m < 4 ∨ m = 10 ∨ (m < 8 ∧ 0 < s_o s (1 - s_t s)) ∨ (m = 8 ∧ c_a (v_c E (s_t s)) ≤ s_o s (s_t s)))) ∨ (s_k s ≠ 0 ∧ (m = 8 ∨ m = 9)))) → fX12_can M (nI m) = some (nI 0, M) → fX12_can M (nI m) = some (nI (if v_can E s m then 1 else 0), M) := fun q g => key false (decide_eq_false q) (by simpa using g)
  have yes : (s_e s = 0 ∧ m < 11 ∧ ((s_k s = 0 ∧ (m < 4 ∨ m = 10 ∨ (m < 8 ∧ 0 < s_o s (1 - s_t s)) ∨ (m = 8 ∧ c_a (v_c E (s_t s)) ≤ s_o s (s_t s)))) ∨ (s_k s ≠ 0 ∧ (m = 8 ∨ m = 9)))) → fX12_can M (nI m) = some (nI 1, M) → fX12_can M (nI m) = some (nI (if v_can E s m then 1 else 0), M) := fun q g => key true (decide_eq_true q) (by simpa using g)
  by_cases h0 : s_e s = 0
  · obtain ⟨w1, w2, w3, w4, w5⟩ := hs.2 h0
    have e31 := R.2.1 h0
    have e32 := R.2.2.1
    have e1 : nI 1 - nI (s_t s) = nI (1 - s_t s) := pk_sub (by omega)
    have o1 := s_ol hs.1 (s_t s)
    have o2 := s_ol hs.1 (1 - s_t s)
    have a1 := R.1 _ ht
    have a2 := R.1 (1 - s_t s) (by omega)
    have k1 := (P.2.2.2.2.1 _ ht).2
    have hc : c_e c0 c1 (s_t s) < 6 := by
      have := P.1
      have := P.2.1
      unfold c_e
      split <;> omega
    have ka := (P.2.2.2.1 _ ht).2.1
    have hask : c_a (v_c E (s_t s)) < 16 := (h.c ht).1
    have ein : fX12_in M (Int32.toInt64 (nI m)) 0 10 = some (nI 1, M) := by
      rw [show (0 : Int64) = lN 0 from rfl, show (10 : Int64) = lN 10 from rfl, sX12_in _ _ _ _ (by decide) (by decide), if_pos ⟨nI_le (Nat.zero_le _) (by omega), nI_le (by omega) (by omega)⟩]
      rfl
    have b80 : m = 8 → fX12_can_b80 M (nI m) = some (nI (if c_a (v_c E (s_t s)) ≤ s_o s (s_t s) then 1 else 0), M) := fun e8 => by
      subst e8
      unfold fX12_can_b80
      by_cases c : c_a (v_c E (s_t s)) ≤ s_o s (s_t s)
      · simp (disch := omega) only [y_lit, y_lt_T, y_lt_F, y_le_T, y_le_F, y_eq_T, y_eq_F, y_in_T, y_cl, ↓reduceIte, y_bs, y_bvs, y_os, y_on, y_t, ne_eq, not_true_eq_false, not_false_eq_true, pk_mul, nI_add, e31, k1, ka, a1, c, if_true]
      · simp (disch := omega) only [y_lit, y_lt_T, y_lt_F, y_le_T, y_le_F, y_eq_T, y_eq_F, y_in_T, y_cl, ↓reduceIte, y_bs, y_bvs, y_os, y_on, y_t, ne_eq, not_true_eq_false, not_false_eq_true, pk_mul, nI_add, e31, k1, ka, a1, c, if_false]
    have b80n : m ≠ 8 → fX12_can_b80 M (nI m) = some (nI 0, M) := fun e8 => by
      unfold fX12_can_b80
      simp (disch := omega) only [y_lit, y_lt_T, y_lt_F, y_le_T, y_le_F, y_eq_T, y_eq_F, y_in_T, y_cl, ↓reduceIte, y_bs, y_bvs, y_os, y_on, y_t, ne_eq, not_true_eq_false, not_false_eq_true, pk_mul, nI_add]
    by_cases hk : s_k s = 0
    · have e32' : ¬ (q_i M 1000 32 = nI (1 - s_t s)) := by
        rw [e32, hk]
        intro z
        have : s_t s = 0 ∨ s_t s = 1 := by omega
        rcases this with e | e <;> rw [e] at z <;> exact absurd z (by decide)
      by_cases m4 : m < 4
      · refine yes ⟨h0, hm, Or.inl ⟨hk, Or.inl m4⟩⟩ ?_
        unfold fX12_can
        simp (disch := omega) only [y_lit, y_lt_T, y_lt_F, y_le_T, y_le_F, y_eq_T, y_eq_F, y_in_T, y_cl, ↓reduceIte, y_bs, y_bvs, y_os, y_on, y_t, ne_eq, not_true_eq_false, not_false_eq_true, pk_mul, nI_add, e34, ein, e31, e1, e32']
      · by_cases m8 : m < 8
        · by_cases ho : 0 < s_o s (1 - s_t s)
          · refine yes ⟨h0, hm, Or.inl ⟨hk, Or.inr (Or.inr (Or.inl ⟨m8, ho⟩))⟩⟩ ?_
            unfold fX12_can
            simp (disch := omega) only [y_lit, y_lt_T, y_lt_F, y_le_T, y_le_F, y_eq_T, y_eq_F, y_in_T, y_cl, ↓reduceIte, y_bs, y_bvs, y_os, y_on, y_t, ne_eq, not_true_eq_false, not_false_eq_true, pk_mul, nI_add, e34, ein, e31, e1, e32', a2]
          · refine nope (fun z => by omega) ?_
            unfold fX12_can
            simp (disch := omega) only [y_lit, y_lt_T, y_lt_F, y_le_T, y_le_F, y_eq_T, y_eq_F, y_in_T, y_cl, ↓reduceIte, y_bs, y_bvs, y_os, y_on, y_t, ne_eq, not_true_eq_false, not_false_eq_true, pk_mul, nI_add, e34, ein, e31, e1, e32', a2]
            exact b80n (by omega)
        · by_cases e8 : m = 8
          · have hf : fX12_can M (nI m) = fX12_can_b80 M (nI m) := by
              unfold fX12_can
              simp (disch := omega) only [y_lit, y_lt_T, y_lt_F, y_le_T, y_le_F, y_eq_T, y_eq_F, y_in_T, y_cl, ↓reduceIte, y_bs, y_bvs, y_os, y_on, y_t, ne_eq, not_true_eq_false, not_false_eq_true, pk_mul, nI_add, e34, ein, e31, e1, e32']
            by_cases c : c_a (v_c E (s_t s)) ≤ s_o s (s_t s)
            · refine yes ⟨h0, hm, Or.inl ⟨hk, Or.inr (Or.inr (Or.inr ⟨e8, c⟩))⟩⟩ ?_
              rw [hf, b80 e8, if_pos c]
            · refine nope (fun z => by omega) ?_
              rw [hf, b80 e8, if_neg c]
          · by_cases e10 : m = 10
            · refine yes ⟨h0, hm, Or.inl ⟨hk, Or.inr (Or.inl e10)⟩⟩ ?_
              unfold fX12_can
              simp (disch := omega) only [y_lit, y_lt_T, y_lt_F, y_le_T, y_le_F, y_eq_T, y_eq_F, y_in_T, y_cl, ↓reduceIte, y_bs, y_bvs, y_os, y_on, y_t, ne_eq, not_true_eq_false, not_false_eq_true, pk_mul, nI_add, e34, ein, e31, e1, e32']
            · refine nope (fun z => by omega) ?_
              unfold fX12_can
              simp (disch := omega) only [y_lit, y_lt_T, y_lt_F, y_le_T, y_le_F, y_eq_T, y_eq_F, y_in_T, y_cl, ↓reduceIte, y_bs, y_bvs, y_os, y_on, y_t, ne_eq, not_true_eq_false, not_false_eq_true, pk_mul, nI_add, e34, ein, e31, e1, e32']
              exact b80n e8
    · have e32' : q_i M 1000 32 = nI (1 - s_t s) := by
        rw [e32, w5.resolve_left hk, pk_sub (by omega)]
        congr 1
        omega
      by_cases e8 : m = 8
      · refine yes ⟨h0, hm, Or.inr ⟨hk, Or.inl e8⟩⟩ ?_
        unfold fX12_can
        simp (disch := omega) only [y_lit, y_lt_T, y_lt_F, y_le_T, y_le_F, y_eq_T, y_eq_F, y_in_T, y_cl, ↓reduceIte, y_bs, y_bvs, y_os, y_on, y_t, ne_eq, not_true_eq_false, not_false_eq_true, pk_mul, nI_add, e34, ein, e31, e1, e32']
      · by_cases e9 : m = 9
        · refine yes ⟨h0, hm, Or.inr ⟨hk, Or.inr e9⟩⟩ ?_
          unfold fX12_can
          simp (disch := omega) only [y_lit, y_lt_T, y_lt_F, y_le_T, y_le_F, y_eq_T, y_eq_F, y_in_T, y_cl, ↓reduceIte, y_bs, y_bvs, y_os, y_on, y_t, ne_eq, not_true_eq_false, not_false_eq_true, pk_mul, nI_add, e34, ein, e31, e1, e32']
        · refine nope (fun z => by omega) ?_
          unfold fX12_can
          simp (disch := omega) only [y_lit, y_lt_T, y_lt_F, y_le_T, y_le_F, y_eq_T, y_eq_F, y_in_T, y_cl, ↓reduceIte, y_bs, y_bvs, y_os, y_on, y_t, ne_eq, not_true_eq_false, not_false_eq_true, pk_mul, nI_add, e34, ein, e31, e1, e32']
  · refine nope (fun z => h0 z.1) ?_
    unfold fX12_can
    simp (disch := omega) only [y_lit, y_lt_T, y_lt_F, y_le_T, y_le_F, y_eq_T, y_eq_F, y_in_T, y_cl, ↓reduceIte, y_bs, y_bvs, y_os, y_on, y_t, ne_eq, not_true_eq_false, not_false_eq_true, pk_mul, nI_add, e34]
theorem sX12_canO {s : ST} (R : RST M s) (hs : s_ok s) {x : Int32} (hx : q_out x 11) : fX12_can M x = some (nI 0, M) := by
  have he : s_e s < 5 := hs.2.2.2.2.2.1
  have e34 := R.2.2.2.2.1
  have ein : fX12_in M (Int32.toInt64 x) 0 10 = some (nI 0, M) := by
    rw [show (0 : Int64) = lN 0 from rfl, show (10 : Int64) = lN 10 from rfl, sX12_in _ _ _ _ (by decide) (by decide), if_neg]
    · rfl
    · intro z
      rcases hx with hx | hx
      · exact Int32.not_le.mpr hx z.1
      · have := Int32.le_trans hx z.2
        rw [nI_leI (by decide) (by decide)] at this
        omega
  unfold fX12_can
  by_cases h0 : s_e s = 0
  · simp (disch := omega) only [y_lit, y_lt_T, y_lt_F, y_le_T, y_le_F, y_eq_T, y_eq_F, y_in_T, y_cl, ↓reduceIte, y_bs, y_bvs, y_os, y_on, y_t, ne_eq, not_true_eq_false, not_false_eq_true, pk_mul, nI_add, e34, ein]
  · simp (disch := omega) only [y_lit, y_lt_T, y_lt_F, y_le_T, y_le_F, y_eq_T, y_eq_F, y_in_T, y_cl, ↓reduceIte, y_bs, y_bvs, y_os, y_on, y_t, ne_eq, not_true_eq_false, not_false_eq_true, pk_mul, nI_add, e34]
end MODELA
