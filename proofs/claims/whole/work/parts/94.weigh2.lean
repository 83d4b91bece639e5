/-! which clause weighs: the reference -/
theorem y_bit {n k : Nat} (h : n < 2147483648) (hk : k < 31) : (nI n >>> (nI k &&& nI 31)) &&& nI 1 = nI (n / 2 ^ k % 2) := by
  have hc : ∀ k, k < 31 → ((nI k &&& nI 31).toBitVec.smod 32).toNat = k := by decide
  exact s_and h 1 (by decide) (hc k hk)
/-- how many of the first i clauses take back -/
def c_b (C : CD) : Nat → Nat
  | 0 => 0
  | i + 1 => c_b C i + if c_s C i = 1 then 1 else 0
/-- the number that a clause counts for, some back clauses being mended -/
def c_V (C : CD) (m i : Nat) : Nat := if c_s C i = 1 ∧ m / 2 ^ c_b C i % 2 = 1 then 15 else c_v C i
def w_G (C : CD) (g : Nat → Int32) (so k : Nat) : Nat := fF (fun i => decide (c_s C i = so ∧ c_k C i = k) && c_H C g i) (c_n C)
theorem c_w_le (C : CD) : ∀ i, c_w C i ≤ i := by
  intro i
  induction i with
  | zero => exact Nat.le_refl _
  | succ n ih =>
    unfold c_w
    split <;> omega
theorem c_b_le (C : CD) : ∀ i, c_b C i ≤ i := by
  intro i
  induction i with
  | zero => exact Nat.le_refl _
  | succ n ih =>
    unfold c_b
    split <;> omega
theorem c_w_mono (C : CD) (i : Nat) : ∀ n, c_w C i ≤ c_w C (i + n) := by
  intro n
  induction n with
  | zero => exact Nat.le_refl _
  | succ n ih =>
    have e : c_w C (i + n + 1) = c_w C (i + n) + if c_s C (i + n) < 3 then 1 else 0 := rfl
    show _ ≤ c_w C (i + n + 1)
    omega
theorem c_w_lt {C : CD} {i n : Nat} (h : c_s C i < 3) (hn : i < n) : c_w C i < c_w C n := by
  have h1 := c_w_mono C (i + 1) (n - (i + 1))
  rw [show i + 1 + (n - (i + 1)) = n by omega, c_w, if_pos h] at h1
  omega
section WEIGH2
variable {C : CD} {M : QM} {t m : Nat} {g : Nat → Int32}
theorem RC2.kept (h : RC2 M t C) {N : QM} (k : kp (fun a j => a = 1000 ∧ 14 ≤ j ∧ j ≤ 41) M N) : RC2 N t C := by
  unfold RC2 at h ⊢
  rw [k.a (by decide), k.a (by decide), k.a (by decide), k.a (by decide), k.a (by decide)]
  refine ⟨h.1, h.2.1, h.2.2.1, h.2.2.2.1, h.2.2.2.2.1, fun i hi hs => ?_, fun j hj => (k.a (by decide)).trans (h.2.2.2.2.2.2 j hj)⟩
  rw [k.a (by decide), k.a (by decide), k.a (by decide), k.a (by decide), k.a (by decide)]
  exact h.2.2.2.2.2.1 i hi hs
theorem k23 {M N : QM} (k : kp (fun a j => a = 1000 ∧ (j = 23 ∨ j = 24)) M N) : kp (fun a j => a = 1000 ∧ 14 ≤ j ∧ j ≤ 41) M N := k.wd (fun a j z => ⟨z.1, by omega⟩)
theorem sX12_weigh_b6 (h : RC2 M t C) (ok : c_ok C) (ht : t < 6) (hg : ∀ w, w < 10 → q_a M 1000 22 w = g w) (hm : q_i M 1000 25 = nI m) (hm6 : m < 64) {so k : Nat} (hso : so < 3) (hk4 : k < 4) : ∀ (n i q : Nat) (N : QM), i + n = c_n C → n < q → kp (fun a j => a = 1000 ∧ (j = 23 ∨ j = 24)) M N → fF (fun i => decide (c_s C i = so ∧ c_k C i = k) && c_H C g i) i = 0 →
    qW (fX12_weigh_b6 q N (nI t) (nI so) (nI k) (nI (c_b C i)) (nI (c_w C i))) (fun v N1 => v = (if w_G C g so k = 0 then -1 else nI (c_V C m (w_G C g so k - 1))) ∧ kp (fun a j => a = 1000 ∧ (j = 23 ∨ j = 24)) M N1) := by
  have hn := ok.2.2.2.2.1
  intro n
  induction n with
  | zero =>
    intro i q N hi hq kk hf
    obtain ⟨q, rfl⟩ : ∃ p, q = p + 1 := ⟨q - 1, by omega⟩
    have e : i = c_n C := hi
    subst e
    have h5 := (h.kept (k23 kk)).2.2.2.2.1
    have hw := c_w_le C (c_n C)
    simp (disch := omega) only [fX12_weigh_b6, y_lit, y_lt_T, y_lt_F, y_le_T, y_le_F, y_eq_T, y_eq_F, y_in_T, y_cl, ↓reduceIte, y_bs, y_bvs, y_os, y_on, y_t, ne_eq, not_true_eq_false, not_false_eq_true, pk_mul, nI_add, h5]
    refine qW_s ⟨?_, kk⟩
    unfold w_G
    rw [if_pos hf]
  | succ n ih =>
    intro i q N hi hq kk hf
    have hi2 : i < c_n C := by omega
    have hs6 := (ok.2.2.2.2.2.2.1 i hi2)
    have e_b : c_b C (i + 1) = c_b C i + if c_s C i = 1 then 1 else 0 := rfl
    have e_w : c_w C (i + 1) = c_w C i + if c_s C i < 3 then 1 else 0 := rfl
    by_cases c3 : c_s C i < 3
    · obtain ⟨q, rfl⟩ : ∃ p, q = p + 1 := ⟨q - 1, by omega⟩
      have hN := h.kept (k23 kk)
      have hgN : ∀ w, w < 10 → q_a N 1000 22 w = g w := fun w hw => (kk.a (by decide)).trans (hg w hw)
      have hmN : q_i N 1000 25 = nI m := (kk.i (by decide)).trans hm
      have h5 := hN.2.2.2.2.1
      obtain ⟨r0, r1, r2, r3, r4⟩ := hN.2.2.2.2.2.1 i hi2 c3
      have hw := c_w_lt c3 hi2
      have hwl := c_w_le C (c_n C)
      have hbl := c_b_le C i
      rw [if_pos c3] at e_w
      have go : ∀ N1, kp (fun a j => a = 1000 ∧ (j = 23 ∨ j = 24)) M N1 → ¬ (decide (c_s C i = so ∧ c_k C i = k) && c_H C g i) = true → qW (fX12_weigh_b168 (fun M x1 x2 x3 x4 x5 => fX12_weigh_b6 q M x1 x2 x3 x4 x5) N1 (nI t) (nI so) (nI k) (nI (c_b C (i + 1))) (nI (c_w C i))) (fun v N1 => v = (if w_G C g so k = 0 then -1 else nI (c_V C m (w_G C g so k - 1))) ∧ kp (fun a j => a = 1000 ∧ (j = 23 ∨ j = 24)) M N1) := fun N1 k1 hm => by
        simp only [fX12_weigh_b168, y_lit, nI_add]
        have := ih (i + 1) q N1 (by omega) (by omega) k1 (fF_miss hf hm)
        rw [e_w] at this
        exact this
      have fin : ∀ N1, kp (fun a j => a = 1000 ∧ (j = 23 ∨ j = 24)) M N1 → (decide (c_s C i = so ∧ c_k C i = k) && c_H C g i) = true → ∀ T : Nat, T = (if c_s C i = 1 ∧ m / 2 ^ c_b C i % 2 = 1 then 1 else 0) → qW (fX12_weigh_b148 N1 (nI (70 * t + 5 * c_w C i)) (nI T)) (fun v N1 => v = (if w_G C g so k = 0 then -1 else nI (c_V C m (w_G C g so k - 1))) ∧ kp (fun a j => a = 1000 ∧ (j = 23 ∨ j = 24)) M N1) := fun N1 k1 hp T hT => by
        have eG : w_G C g so k = i + 1 := by
          unfold w_G
          exact fF_hit hf hp hi2
        have r2N : q_a N1 1000 8 (70 * t + 5 * c_w C i + 2) = nI (c_v C i) := ((h.kept (k23 k1)).2.2.2.2.2.1 i hi2 c3).2.2.1
        rw [eG, if_neg (by omega), Nat.add_sub_cancel]
        unfold c_V
        by_cases z : c_s C i = 1 ∧ m / 2 ^ c_b C i % 2 = 1
        · rw [if_pos z] at hT ⊢
          subst hT
          simp (disch := omega) only [fX12_weigh_b148, y_lit, y_lt_T, y_lt_F, y_le_T, y_le_F, y_eq_T, y_eq_F, y_in_T, y_cl, ↓reduceIte, y_bs, y_bvs, y_os, y_on, y_t, ne_eq, not_true_eq_false, not_false_eq_true, pk_mul, nI_add]
          exact qW_s ⟨rfl, k1⟩
        · rw [if_neg z] at hT ⊢
          subst hT
          simp (disch := omega) only [fX12_weigh_b148, y_lit, y_lt_T, y_lt_F, y_le_T, y_le_F, y_eq_T, y_eq_F, y_in_T, y_cl, ↓reduceIte, y_bs, y_bvs, y_os, y_on, y_t, ne_eq, not_true_eq_false, not_false_eq_true, pk_mul, nI_add, r2N]
          exact qW_s ⟨rfl, k1⟩
      have mid : ∀ T : Nat, T = (if c_s C i = 1 ∧ m / 2 ^ c_b C i % 2 = 1 then 1 else 0) → qW (fX12_weigh_b77 (fun M x1 x2 x3 x4 x5 => fX12_weigh_b6 q M x1 x2 x3 x4 x5) N (nI t) (nI so) (nI k) (nI (c_w C i)) (nI (70 * t + 5 * c_w C i)) (nI T) (nI (if c_s C i = 1 then 1 else 0)) (nI (c_b C i))) (fun v N1 => v = (if w_G C g so k = 0 then -1 else nI (c_V C m (w_G C g so k - 1))) ∧ kp (fun a j => a = 1000 ∧ (j = 23 ∨ j = 24)) M N1) := fun T hT => by
        by_cases es : c_s C i = so
        · by_cases ek : c_k C i = k
          · simp (disch := omega) only [fX12_weigh_b77, y_lit, y_lt_T, y_lt_F, y_le_T, y_le_F, y_eq_T, y_eq_F, y_in_T, y_cl, ↓reduceIte, y_bs, y_bvs, y_os, y_on, y_t, ne_eq, not_true_eq_false, not_false_eq_true, pk_mul, nI_add, r0, r1, r3, r4, ← e_b]
            by_cases ef : c_f C i = c_t C i
            · rw [if_pos ef, if_pos (by decide)]
              refine fin N kk ?_ T hT
              rw [decide_eq_true ⟨es, ek⟩, Bool.true_and]
              have : c_I C g i = 1 := by
                unfold c_I
                rw [ef, Nat.sub_self]
                rfl
              unfold c_H
              rw [this]
              decide
            · have hft : c_f C i < c_t C i := by omega
              have hz := ok.2.2.2.2.2.1
              simp (disch := omega) only [ef, y_lit, y_lt_T, y_lt_F, y_le_T, y_le_F, y_eq_T, y_eq_F, y_in_T, y_cl, ↓reduceIte, y_bs, y_bvs, y_os, y_on, y_t, ne_eq, not_true_eq_false, not_false_eq_true, pk_mul, nI_add]
              refine qW_k (sX12_isTrue hN ok ht hgN hi2 hft) (fun v N1 g1 => ?_)
              obtain ⟨rfl, k1⟩ := g1
              by_cases c : c_I C g i = nI 0
              · rw [if_neg (fun z => z c)]
                refine go N1 (kk.tr k1) ?_
                rw [(Bool.not_eq_true _).mp ((hI0 ok hi2).mp c), Bool.and_false]
                decide
              · rw [if_pos c]
                refine fin N1 (kk.tr k1) ?_ T hT
                rw [decide_eq_true ⟨es, ek⟩, Bool.true_and]
                by_cases z : c_H C g i = true
                · exact z
                · exact absurd ((hI0 ok hi2).mpr z) c
          · simp (disch := omega) only [fX12_weigh_b77, y_lit, y_lt_T, y_lt_F, y_le_T, y_le_F, y_eq_T, y_eq_F, y_in_T, y_cl, ↓reduceIte, y_bs, y_bvs, y_os, y_on, y_t, ne_eq, not_true_eq_false, not_false_eq_true, pk_mul, nI_add, r0, r1, r3, r4, ← e_b]
            refine go N kk ?_
            rw [decide_eq_false (fun z => ek z.2)]
            simp
        · simp (disch := omega) only [fX12_weigh_b77, y_lit, y_lt_T, y_lt_F, y_le_T, y_le_F, y_eq_T, y_eq_F, y_in_T, y_cl, ↓reduceIte, y_bs, y_bvs, y_os, y_on, y_t, ne_eq, not_true_eq_false, not_false_eq_true, pk_mul, nI_add, r0, r1, r3, r4, ← e_b]
          refine go N kk ?_
          rw [decide_eq_false (fun z => es z.1)]
          simp
      have hb2 : m / 2 ^ c_b C i % 2 < 2 := Nat.mod_lt _ (by decide)
      by_cases e1 : c_s C i = 1
      · rw [if_pos e1] at mid
        by_cases eb : m / 2 ^ c_b C i % 2 = 1
        · simp (disch := omega) only [fX12_weigh_b6, fX12_weigh_b57, y_lit, y_lt_T, y_lt_F, y_le_T, y_le_F, y_eq_T, y_eq_F, y_in_T, y_cl, ↓reduceIte, y_bs, y_bvs, y_os, y_on, y_t, ne_eq, not_true_eq_false, not_false_eq_true, pk_mul, nI_add, r0, h5, hmN, y_bit]
          exact mid 1 (by rw [if_pos ⟨e1, eb⟩])
        · simp (disch := omega) only [fX12_weigh_b6, fX12_weigh_b56, fX12_weigh_b57, y_lit, y_lt_T, y_lt_F, y_le_T, y_le_F, y_eq_T, y_eq_F, y_in_T, y_cl, ↓reduceIte, y_bs, y_bvs, y_os, y_on, y_t, ne_eq, not_true_eq_false, not_false_eq_true, pk_mul, nI_add, r0, h5, hmN, y_bit]
          exact mid 0 (by rw [if_neg (fun z => eb z.2)])
      · rw [if_neg e1] at mid
        simp (disch := omega) only [fX12_weigh_b6, fX12_weigh_b56, fX12_weigh_b57, y_lit, y_lt_T, y_lt_F, y_le_T, y_le_F, y_eq_T, y_eq_F, y_in_T, y_cl, ↓reduceIte, y_bs, y_bvs, y_os, y_on, y_t, ne_eq, not_true_eq_false, not_false_eq_true, pk_mul, nI_add, r0, h5]
        exact mid 0 (by rw [if_neg (fun z => e1 z.1)])
    · rw [if_neg c3] at e_w
      rw [if_neg (by omega)] at e_b
      have := ih (i + 1) q N (by omega) (by omega) kk (fF_miss hf (by rw [decide_eq_false (fun z => c3 (by omega))]; simp))
      rw [e_w, e_b] at this
      exact this
theorem sX12_weigh (h : RC2 M t C) (ok : c_ok C) (ht : t < 6) (hg : ∀ w, w < 10 → q_a M 1000 22 w = g w) (hm : q_i M 1000 25 = nI m) (hm6 : m < 64) {so k : Nat} (hso : so < 3) (hk4 : k < 4) :
    qW (fX12_weigh M (nI t) (nI so) (nI k)) (fun v N1 => v = (if w_G C g so k = 0 then -1 else nI (c_V C m (w_G C g so k - 1))) ∧ kp (fun a j => a = 1000 ∧ (j = 23 ∨ j = 24)) M N1) := by
  unfold fX12_weigh
  rw [nI0]
  exact sX12_weigh_b6 h ok ht hg hm hm6 hso hk4 (c_n C) 0 q_F M (by omega) (q_Fn (by have := ok.2.2.2.2.1; omega)) kp.rf rfl
theorem w_G0 {C : CD} (ok : c_ok C) (g : Nat → Int32) {so k : Nat} (hso : so < 2) (hk : k < 4) : w_G C g so k = w_N C g (4 * so + k) := by
  refine fF_same _ (fun i hi => ?_)
  have := ok.2.2.2.2.2.2.1 i hi
  congr 1
  unfold c_S
  by_cases e : c_s C i < 2
  · rw [if_pos e]
    by_cases z : c_s C i = so ∧ c_k C i = k
    · rw [decide_eq_true z, decide_eq_true (by omega)]
    · rw [decide_eq_false z, decide_eq_false (by omega)]
  · rw [if_neg e, decide_eq_false (by omega), decide_eq_false (by omega)]
theorem w_G2 {C : CD} (ok : c_ok C) (g : Nat → Int32) : w_G C g 2 0 = w_R C g := by
  refine fF_same _ (fun i hi => ?_)
  have := ok.2.2.2.2.2.2.2.2 i hi
  congr 1
  by_cases z : c_s C i = 2
  · rw [decide_eq_true z, decide_eq_true ⟨z, this z⟩]
  · rw [decide_eq_false z, decide_eq_false (fun q => z q.1)]
/-- what a move weighs by a code, some back clauses being mended -/
def w_V (C : CD) (g : Nat → Int32) (m s : Nat) : Nat := if w_N C g s = 0 then 0 else c_V C m (w_N C g s - 1)
theorem c_V_lt {C : CD} (ok : c_ok C) (m : Nat) {i : Nat} (hi : i < c_n C) : c_V C m i < 16 := by
  have := (ok.2.2.2.2.2.2.1 i hi).2.2.1
  unfold c_V
  split <;> omega
theorem w_V_lt {C : CD} (ok : c_ok C) (g : Nat → Int32) (m s : Nat) : w_V C g m s < 16 := by
  unfold w_V
  split
  · decide
  · have := fF_le (fun i => decide (c_S C i = s) && c_H C g i) (c_n C)
    refine c_V_lt ok m ?_
    unfold w_N at *
    omega
theorem w_V0 {C : CD} (ok : c_ok C) (g : Nat → Int32) (s : Nat) : w_V C g 0 s = w_v C g s := by
  unfold w_V w_v c_V
  simp
/-- slights aren't mended -/
theorem w_Vs {C : CD} (ok : c_ok C) (g : Nat → Int32) (m : Nat) {s : Nat} (hs : s < 4) : w_V C g m s = w_v C g s := by
  unfold w_V w_v
  by_cases z : w_N C g s = 0
  · rw [if_pos z, if_pos z]
  · rw [if_neg z, if_neg z]
    have hp := fF_at (p := fun i => decide (c_S C i = s) && c_H C g i) (n := c_n C) (k := w_N C g s - 1) (by unfold w_N at *; omega)
    have h1 := of_decide_eq_true (Bool.and_eq_true_iff.mp hp.2).1
    unfold c_V
    rw [if_neg]
    intro q
    unfold c_S at h1
    rw [if_pos (by omega)] at h1
    omega
theorem sX12_degree (h : RC2 M t C) (ok : c_ok C) (ht : t < 6) (hg : ∀ w, w < 10 → q_a M 1000 22 w = g w) (hm : q_i M 1000 25 = nI m) (hm6 : m < 64) {k : Nat} (hk4 : k < 4) :
    qW (fX12_degree M (nI t) (nI k)) (fun v N1 => v = nI (w_v C g k) ∧ kp (fun a j => a = 1000 ∧ (j = 23 ∨ j = 24)) M N1) := by
  unfold fX12_degree
  rw [nI0]
  refine qW_k (sX12_weigh h ok ht hg hm hm6 (so := 0) (by decide) hk4) (fun v N1 g1 => ?_)
  obtain ⟨rfl, k1⟩ := g1
  have hl := w_V_lt ok g m k
  rw [w_G0 ok g (by decide) hk4, show 4 * 0 + k = k by omega, ← w_Vs ok g m hk4]
  unfold w_V at hl ⊢
  by_cases z : w_N C g k = 0
  · rw [if_pos z, if_pos z, if_neg (by decide)]
    exact qW_s ⟨rfl, k1⟩
  · rw [if_neg z] at hl
    rw [if_neg z, if_neg z, if_pos (nI_le (Nat.zero_le _) (by omega))]
    exact qW_s ⟨rfl, k1⟩
theorem sX12_takes (h : RC2 M t C) (ok : c_ok C) (ht : t < 6) (hg : ∀ w, w < 10 → q_a M 1000 22 w = g w) (hm : q_i M 1000 25 = nI m) (hm6 : m < 64) {k : Nat} (hk4 : k < 4) :
    qW (fX12_takes M (nI t) (nI k)) (fun v N1 => v = nI (w_V C g m (4 + k)) ∧ kp (fun a j => a = 1000 ∧ (j = 23 ∨ j = 24)) M N1) := by
  unfold fX12_takes
  rw [L1, nI0]
  refine qW_k (sX12_weigh h ok ht hg hm hm6 (so := 1) (by decide) hk4) (fun v N1 g1 => ?_)
  obtain ⟨rfl, k1⟩ := g1
  have hl := w_V_lt ok g m (4 + k)
  rw [w_G0 ok g (by decide) hk4, show 4 * 1 + k = 4 + k by omega]
  unfold w_V at hl ⊢
  by_cases z : w_N C g (4 + k) = 0
  · rw [if_pos z, if_pos z, if_neg (by decide)]
    exact qW_s ⟨rfl, k1⟩
  · rw [if_neg z] at hl
    rw [if_neg z, if_neg z, if_pos (nI_le (Nat.zero_le _) (by omega))]
    exact qW_s ⟨rfl, k1⟩
theorem sX12_mayRefuse (h : RC2 M t C) (ok : c_ok C) (ht : t < 6) (hg : ∀ w, w < 10 → q_a M 1000 22 w = g w) (hm : q_i M 1000 25 = nI m) (hm6 : m < 64) :
    qW (fX12_mayRefuse M (nI t)) (fun v N1 => v = nI (if w_R C g = 0 then 0 else 1) ∧ kp (fun a j => a = 1000 ∧ (j = 23 ∨ j = 24)) M N1) := by
  unfold fX12_mayRefuse
  rw [L2, nI0]
  refine qW_k (sX12_weigh h ok ht hg hm hm6 (so := 2) (k := 0) (by decide) (by decide)) (fun v N1 g1 => ?_)
  obtain ⟨rfl, k1⟩ := g1
  rw [w_G2 ok g]
  by_cases z : w_R C g = 0
  · rw [if_pos z, if_pos z, if_pos (by decide)]
    exact qW_s ⟨rfl, k1⟩
  · have hi : w_R C g - 1 < c_n C := by
      have := fF_le (fun i => decide (c_s C i = 2) && c_H C g i) (c_n C)
      unfold w_R at *
      omega
    have hl := c_V_lt ok m hi
    rw [if_neg z, if_neg z, if_neg (nI_nlt (Nat.zero_le _) (by omega))]
    exact qW_s ⟨rfl, k1⟩
end WEIGH2
