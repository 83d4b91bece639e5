/-! which clause weighs: the first that does, told as 1 more than it is, 0 without -/
def fF (p : Nat → Bool) : Nat → Nat
  | 0 => 0
  | i + 1 => if fF p i = 0 then (if p i then i + 1 else 0) else fF p i
theorem fF_le (p : Nat → Bool) : ∀ n, fF p n ≤ n := by
  intro n
  induction n with
  | zero => exact Nat.le_refl _
  | succ n ih =>
    unfold fF
    split
    · split <;> omega
    · omega
theorem fF_stay {p : Nat → Bool} {i : Nat} (h : fF p i ≠ 0) : ∀ n, fF p (i + n) = fF p i := by
  intro n
  induction n with
  | zero => rfl
  | succ n ih =>
    show fF p (i + n + 1) = _
    rw [fF, if_neg (by rw [ih]; exact h), ih]
theorem fF_hit {p : Nat → Bool} {i n : Nat} (h : fF p i = 0) (hp : p i = true) (hn : i < n) : fF p n = i + 1 := by
  have e : fF p (i + 1) = i + 1 := by rw [fF, if_pos h, if_pos hp]
  have := fF_stay (p := p) (i := i + 1) (by rw [e]; omega) (n - (i + 1))
  rw [e, show i + 1 + (n - (i + 1)) = n by omega] at this
  exact this
theorem fF_miss {p : Nat → Bool} {i : Nat} (h : fF p i = 0) (hp : ¬ p i = true) : fF p (i + 1) = 0 := by
  rw [fF, if_pos h, if_neg hp]
theorem fF_at {p : Nat → Bool} : ∀ {n k : Nat}, fF p n = k + 1 → k < n ∧ p k = true := by
  intro n
  induction n with
  | zero => intro k h; cases h
  | succ n ih =>
    intro k h
    rw [fF] at h
    split at h
    · split at h
      · rename_i hp
        have e : n = k := by omega
        subst e
        exact ⟨Nat.lt_succ_self _, hp⟩
      · omega
    · have := ih h
      exact ⟨by omega, this.2⟩
theorem fF_same {p q : Nat → Bool} : ∀ n, (∀ i, i < n → p i = q i) → fF p n = fF q n := by
  intro n
  induction n with
  | zero => intro _; rfl
  | succ n ih =>
    intro h
    rw [fF, fF, ih (fun i hi => h i (by omega)), h n (by omega)]
/-- the move that a clause weighs; 8 if it weighs none -/
def c_S (C : CD) (i : Nat) : Nat := if c_s C i < 2 then 4 * c_s C i + c_k C i else 8
def w_N (C : CD) (g : Nat → Int32) (s : Nat) : Nat := fF (fun i => decide (c_S C i = s) && c_H C g i) (c_n C)
def w_R (C : CD) (g : Nat → Int32) : Nat := fF (fun i => decide (c_s C i = 2) && c_H C g i) (c_n C)
theorem w_le {C : CD} (g : Nat → Int32) (s : Nat) (h : c_ok C) : w_N C g s < 16 := by
  have := fF_le (fun i => decide (c_S C i = s) && c_H C g i) (c_n C)
  have := h.2.2.2.2.1
  unfold w_N
  omega
/-- the weight of a move by a code, where it has one -/
def w_v (C : CD) (g : Nat → Int32) (s : Nat) : Nat := if w_N C g s = 0 then 0 else c_v C (w_N C g s - 1)
theorem y_nib {W s : Nat} (hW : W < 2 ^ 32) (hs : s < 8) : (nI W >>> (nI (4 * s) &&& nI 31)) &&& nI 15 = nI (W / 2 ^ (4 * s) % 16) := by
  have hc : ∀ s, s < 8 → ((nI (4 * s) &&& nI 31).toBitVec.smod 32).toNat = 4 * s := by decide
  rw [pk_and _ 4 (by decide)]
  congr 1
  apply Nat.eq_of_testBit_eq
  intro i
  rw [show (16 : Nat) = 2 ^ 4 from rfl, Nat.testBit_mod_two_pow, Nat.testBit_mod_two_pow]
  by_cases hi : i < 4
  · congr 1
    rw [Nat.testBit_div_two_pow]
    show ((nI W).toBitVec.sshiftRight ((nI (4 * s) &&& nI 31).toBitVec.smod 32).toNat).toNat.testBit i = _
    rw [hc s hs, BitVec.testBit_toNat, BitVec.getLsbD_sshiftRight, ← BitVec.testBit_toNat, pk_tn hW]
    have h1 : decide (32 ≤ i) = false := decide_eq_false (by omega)
    have h2 : 4 * s + i < 32 := by omega
    rw [h1, if_pos h2, Nat.add_comm i]
    rfl
  · rw [decide_eq_false hi]
    rfl
theorem y_nibU {W v s t : Nat} (hs : s < 8) (ht : t < 8) (hv : v < 16) (h0 : W / 2 ^ (4 * s) % 16 = 0) : (W ||| v * 2 ^ (4 * s)) / 2 ^ (4 * t) % 16 = if t = s then v else W / 2 ^ (4 * t) % 16 := by
  have key : ∀ i, i < 4 → (W ||| v * 2 ^ (4 * s)).testBit (i + 4 * t) = if t = s then v.testBit i else W.testBit (i + 4 * t) := fun i hi => by
    rw [Nat.testBit_or, Nat.mul_comm v, Nat.testBit_two_pow_mul]
    by_cases e : t = s
    · subst e
      have g : W.testBit (i + 4 * t) = false := by
        have : (W / 2 ^ (4 * t) % 2 ^ 4).testBit i = false := by
          rw [show W / 2 ^ (4 * t) % 2 ^ 4 = 0 from h0, Nat.zero_testBit]
        rw [Nat.testBit_mod_two_pow, decide_eq_true hi, Bool.true_and, Nat.testBit_div_two_pow] at this
        exact this
      rw [g, if_pos rfl, decide_eq_true (show i + 4 * t ≥ 4 * t by omega), Nat.add_sub_cancel]
      rfl
    · rw [if_neg e]
      by_cases c : i + 4 * t ≥ 4 * s
      · have : v.testBit (i + 4 * t - 4 * s) = false := Nat.testBit_lt_two_pow (Nat.lt_of_lt_of_le hv (show 2 ^ 4 ≤ _ from Nat.pow_le_pow_right (by decide) (by omega)))
        rw [this, Bool.and_false, Bool.or_false]
      · rw [decide_eq_false c, Bool.false_and, Bool.or_false]
  apply Nat.eq_of_testBit_eq
  intro i
  by_cases hi : i < 4
  · have h1 : ∀ x : Nat, (x / 2 ^ (4 * t) % 16).testBit i = x.testBit (i + 4 * t) := fun x => by
      rw [show (16 : Nat) = 2 ^ 4 from rfl, Nat.testBit_mod_two_pow, decide_eq_true hi, Bool.true_and, Nat.testBit_div_two_pow]
    rw [h1, key i hi]
    by_cases e : t = s
    · rw [if_pos e, if_pos e]
    · rw [if_neg e, if_neg e, h1]
  · have h2 : ∀ x : Nat, x < 16 → x.testBit i = false := fun x hx => Nat.testBit_lt_two_pow (Nat.lt_of_lt_of_le hx (show 2 ^ 4 ≤ _ from Nat.pow_le_pow_right (by decide) (by omega)))
    rw [h2 _ (Nat.mod_lt _ (by decide)), h2]
    split
    · exact hv
    · exact Nat.mod_lt _ (by decide)
section WEIGH
variable {C : CD} {M : QM} {o so : Nat} {g : Nat → Int32}
theorem RC1.kept (h : RC1 M o C) {N : QM} (k : kp (fun a j => a = o ∧ j = 6) M N) : RC1 N o C := by
  have no : ∀ {j : Nat}, j ≠ 6 → ¬ (o = o ∧ j = 6) := fun h z => h z.2
  unfold RC1 at h ⊢
  rw [k.i (no (by decide)), k.i (no (by decide)), k.i (no (by decide)), k.i (no (by decide))]
  refine ⟨h.1, h.2.1, h.2.2.1, h.2.2.2.1, fun i hi => ?_, fun j hj => (k.a (no (by decide))).trans (h.2.2.2.2.2 j hj)⟩
  rw [k.a (no (by decide)), k.a (no (by decide)), k.a (no (by decide)), k.a (no (by decide)), k.a (no (by decide))]
  exact h.2.2.2.2.1 i hi
theorem sX2_slotOf (h : RC1 M o C) (ok : c_ok C) {i : Nat} (hi : i < c_n C) : fX2_slotOf M o (nI i) = some (nI (c_S C i), M) := by
  have hn := ok.2.2.2.2.1
  have hs := (ok.2.2.2.2.2.2.1 i hi).1
  have hr := h.2.2.2.2.1 i hi
  unfold fX2_slotOf c_S
  simp (disch := omega) only [y_lit, y_lt_T, y_lt_F, y_le_T, y_le_F, y_eq_T, y_eq_F, y_in_T, y_cl, ↓reduceIte, y_bs, y_bvs, y_os, y_on, y_t, ne_eq, not_true_eq_false, not_false_eq_true, pk_mul, nI_add, hr.1]
  by_cases e0 : c_s C i = 0
  · simp (disch := omega) only [y_lit, y_lt_T, y_lt_F, y_le_T, y_le_F, y_eq_T, y_eq_F, y_in_T, y_cl, ↓reduceIte, y_bs, y_bvs, y_os, y_on, y_t, ne_eq, not_true_eq_false, not_false_eq_true, pk_mul, nI_add, e0, fX2_slotOf_b16, hr.1, hr.2.1]
    rw [if_pos (by omega)]
  · by_cases e1 : c_s C i = 1
    · simp (disch := omega) only [y_lit, y_lt_T, y_lt_F, y_le_T, y_le_F, y_eq_T, y_eq_F, y_in_T, y_cl, ↓reduceIte, y_bs, y_bvs, y_os, y_on, y_t, ne_eq, not_true_eq_false, not_false_eq_true, pk_mul, nI_add, e1, fX2_slotOf_b16, hr.1, hr.2.1]
      rw [if_pos (by omega)]
    · simp (disch := omega) only [y_lit, y_lt_T, y_lt_F, y_le_T, y_le_F, y_eq_T, y_eq_F, y_in_T, y_cl, ↓reduceIte, y_bs, y_bvs, y_os, y_on, y_t, ne_eq, not_true_eq_false, not_false_eq_true, pk_mul, nI_add]
      rw [if_neg (by omega)]
theorem hI0 (ok : c_ok C) {i : Nat} (hi : i < c_n C) : c_I C g i = 0 ↔ ¬ c_H C g i = true := by
  unfold c_H
  rcases c_I01 ok g hi with e | e <;> rw [e] <;> decide
/-- weight: the first clause of a slot whose test holds -/
theorem sX2_weight_b2 (h : RC1 M o C) (ok : c_ok C) (hso : so ≠ o) (hg : ∀ w, w < 10 → q_a M so 0 w = g w) {s : Nat} (hs : s < 8) : ∀ (n i q : Nat) (N : QM), i + n = c_n C → n < q → kp (fun a j => a = o ∧ j = 6) M N → fF (fun i => decide (c_S C i = s) && c_H C g i) i = 0 →
    qW (fX2_weight_b2 q N o (nI s) so (nI i)) (fun v N1 => v = nI (w_v C g s) ∧ kp (fun a j => a = o ∧ j = 6) M N1) := by
  have hn := ok.2.2.2.2.1
  intro n
  induction n with
  | zero =>
    intro i q N hi hq k hf
    obtain ⟨q, rfl⟩ : ∃ p, q = p + 1 := ⟨q - 1, by omega⟩
    have e : i = c_n C := hi
    subst e
    have h1 := (h.kept k).1
    simp (disch := omega) only [fX2_weight_b2, y_lit, y_lt_T, y_lt_F, y_le_T, y_le_F, y_eq_T, y_eq_F, y_in_T, y_cl, ↓reduceIte, y_bs, y_bvs, y_os, y_on, y_t, ne_eq, not_true_eq_false, not_false_eq_true, pk_mul, nI_add, h1]
    refine qW_s ⟨?_, k⟩
    unfold w_v w_N
    rw [if_pos hf]
  | succ n ih =>
    intro i q N hi hq k hf
    obtain ⟨q, rfl⟩ : ∃ p, q = p + 1 := ⟨q - 1, by omega⟩
    have hN := h.kept k
    have h1 := hN.1
    have hgN : ∀ w, w < 10 → q_a N so 0 w = g w := fun w hw => (k.a (fun z => hso z.1)).trans (hg w hw)
    have hi2 : i < c_n C := by omega
    have hS : c_S C i ≤ 8 := by
      have := (ok.2.2.2.2.2.2.1 i hi2).2.1
      unfold c_S
      split <;> omega
    have go : ∀ N1, kp (fun a j => a = o ∧ j = 6) M N1 → ¬ (decide (c_S C i = s) && c_H C g i) = true → qW (fX2_weight_b41 (fun M o0 x1 o2 x3 => fX2_weight_b2 q M o0 x1 o2 x3) N1 o (nI s) so (nI i)) (fun v N1 => v = nI (w_v C g s) ∧ kp (fun a j => a = o ∧ j = 6) M N1) := fun N1 k1 hm => by
      simp only [fX2_weight_b41, y_lit, nI_add]
      exact ih (i + 1) q N1 (by omega) (by omega) k1 (fF_miss hf hm)
    simp (disch := omega) only [fX2_weight_b2, y_lit, y_lt_T, y_lt_F, y_le_T, y_le_F, y_eq_T, y_eq_F, y_in_T, y_cl, ↓reduceIte, y_bs, y_bvs, y_os, y_on, y_t, ne_eq, not_true_eq_false, not_false_eq_true, pk_mul, nI_add, h1, sX2_slotOf hN ok hi2]
    by_cases e : c_S C i = s
    · simp (disch := omega) only [y_lit, y_lt_T, y_lt_F, y_le_T, y_le_F, y_eq_T, y_eq_F, y_in_T, y_cl, ↓reduceIte, y_bs, y_bvs, y_os, y_on, y_t, ne_eq, not_true_eq_false, not_false_eq_true, pk_mul, nI_add]
      refine qW_k (sX2_holds hN ok hso hgN hi2) (fun v N1 g1 => ?_)
      obtain ⟨rfl, k1⟩ := g1
      by_cases c : c_I C g i = nI 0
      · rw [if_pos c]
        refine go N1 (k.tr k1) ?_
        rw [(Bool.not_eq_true _).mp ((hI0 ok hi2).mp c), Bool.and_false]
        decide
      · rw [if_neg c]
        have hp : (decide (c_S C i = s) && c_H C g i) = true := by
          have : c_H C g i = true := by
            by_cases z : c_H C g i = true
            · exact z
            · exact absurd ((hI0 ok hi2).mpr z) c
          rw [this, decide_eq_true e]
          rfl
        have hr := (h.kept (k.tr k1)).2.2.2.2.1 i hi2
        simp (disch := omega) only [fX2_weight_b34, y_lit, y_lt_T, y_lt_F, y_le_T, y_le_F, y_eq_T, y_eq_F, y_in_T, y_cl, ↓reduceIte, y_bs, y_bvs, y_os, y_on, y_t, ne_eq, not_true_eq_false, not_false_eq_true, pk_mul, nI_add, hr.2.2.1]
        refine qW_s ⟨?_, k.tr k1⟩
        unfold w_v w_N
        rw [fF_hit hf hp hi2, if_neg (by omega), Nat.add_sub_cancel]
    · simp (disch := omega) only [y_lit, y_lt_T, y_lt_F, y_le_T, y_le_F, y_eq_T, y_eq_F, y_in_T, y_cl, ↓reduceIte, y_bs, y_bvs, y_os, y_on, y_t, ne_eq, not_true_eq_false, not_false_eq_true, pk_mul, nI_add]
      refine go N k ?_
      rw [decide_eq_false e]
      simp
theorem sX2_weight (h : RC1 M o C) (ok : c_ok C) (hso : so ≠ o) (hg : ∀ w, w < 10 → q_a M so 0 w = g w) {s : Nat} (hs : s < 8) : qW (fX2_weight M o (nI s) so) (fun v N1 => v = nI (w_v C g s) ∧ kp (fun a j => a = o ∧ j = 6) M N1) := by
  unfold fX2_weight
  rw [nI0]
  exact sX2_weight_b2 h ok hso hg hs (c_n C) 0 q_F M (by omega) (q_Fn (by have := ok.2.2.2.2.1; omega)) kp.rf rfl
/-- letsRefuse -/
theorem sX2_letsRefuse_b2 (h : RC1 M o C) (ok : c_ok C) (hso : so ≠ o) (hg : ∀ w, w < 10 → q_a M so 0 w = g w) : ∀ (n i q : Nat) (N : QM), i + n = c_n C → n < q → kp (fun a j => a = o ∧ j = 6) M N → fF (fun i => decide (c_s C i = 2) && c_H C g i) i = 0 →
    qW (fX2_letsRefuse_b2 q N o so (nI i)) (fun v N1 => v = nI (if w_R C g = 0 then 0 else 1) ∧ kp (fun a j => a = o ∧ j = 6) M N1) := by
  have hn := ok.2.2.2.2.1
  intro n
  induction n with
  | zero =>
    intro i q N hi hq k hf
    obtain ⟨q, rfl⟩ : ∃ p, q = p + 1 := ⟨q - 1, by omega⟩
    have e : i = c_n C := hi
    subst e
    have h1 := (h.kept k).1
    simp (disch := omega) only [fX2_letsRefuse_b2, y_lit, y_lt_T, y_lt_F, y_le_T, y_le_F, y_eq_T, y_eq_F, y_in_T, y_cl, ↓reduceIte, y_bs, y_bvs, y_os, y_on, y_t, ne_eq, not_true_eq_false, not_false_eq_true, pk_mul, nI_add, h1]
    refine qW_s ⟨?_, k⟩
    unfold w_R
    rw [if_pos hf]
  | succ n ih =>
    intro i q N hi hq k hf
    obtain ⟨q, rfl⟩ : ∃ p, q = p + 1 := ⟨q - 1, by omega⟩
    have hN := h.kept k
    have h1 := hN.1
    have hgN : ∀ w, w < 10 → q_a N so 0 w = g w := fun w hw => (k.a (fun z => hso z.1)).trans (hg w hw)
    have hi2 : i < c_n C := by omega
    have hs := (ok.2.2.2.2.2.2.1 i hi2).1
    have hr := hN.2.2.2.2.1 i hi2
    have go : ∀ N1, kp (fun a j => a = o ∧ j = 6) M N1 → ¬ (decide (c_s C i = 2) && c_H C g i) = true → qW (fX2_letsRefuse_b37 (fun M o0 o1 x2 => fX2_letsRefuse_b2 q M o0 o1 x2) N1 o so (nI i)) (fun v N1 => v = nI (if w_R C g = 0 then 0 else 1) ∧ kp (fun a j => a = o ∧ j = 6) M N1) := fun N1 k1 hm => by
      simp only [fX2_letsRefuse_b37, y_lit, nI_add]
      exact ih (i + 1) q N1 (by omega) (by omega) k1 (fF_miss hf hm)
    simp (disch := omega) only [fX2_letsRefuse_b2, y_lit, y_lt_T, y_lt_F, y_le_T, y_le_F, y_eq_T, y_eq_F, y_in_T, y_cl, ↓reduceIte, y_bs, y_bvs, y_os, y_on, y_t, ne_eq, not_true_eq_false, not_false_eq_true, pk_mul, nI_add, h1, hr.1]
    by_cases e : c_s C i = 2
    · simp (disch := omega) only [y_lit, y_lt_T, y_lt_F, y_le_T, y_le_F, y_eq_T, y_eq_F, y_in_T, y_cl, ↓reduceIte, y_bs, y_bvs, y_os, y_on, y_t, ne_eq, not_true_eq_false, not_false_eq_true, pk_mul, nI_add]
      refine qW_k (sX2_holds hN ok hso hgN hi2) (fun v N1 g1 => ?_)
      obtain ⟨rfl, k1⟩ := g1
      by_cases c : c_I C g i = nI 0
      · rw [if_pos c]
        refine go N1 (k.tr k1) ?_
        rw [(Bool.not_eq_true _).mp ((hI0 ok hi2).mp c), Bool.and_false]
        decide
      · rw [if_neg c]
        have hp : (decide (c_s C i = 2) && c_H C g i) = true := by
          have : c_H C g i = true := by
            by_cases z : c_H C g i = true
            · exact z
            · exact absurd ((hI0 ok hi2).mpr z) c
          rw [this, decide_eq_true e]
          rfl
        refine qW_s ⟨?_, k.tr k1⟩
        unfold w_R
        rw [fF_hit hf hp hi2, if_neg (by omega)]
    · simp (disch := omega) only [y_lit, y_lt_T, y_lt_F, y_le_T, y_le_F, y_eq_T, y_eq_F, y_in_T, y_cl, ↓reduceIte, y_bs, y_bvs, y_os, y_on, y_t, ne_eq, not_true_eq_false, not_false_eq_true, pk_mul, nI_add]
      refine go N k ?_
      rw [decide_eq_false e]
      simp
theorem sX2_letsRefuse (h : RC1 M o C) (ok : c_ok C) (hso : so ≠ o) (hg : ∀ w, w < 10 → q_a M so 0 w = g w) : qW (fX2_letsRefuse M o so) (fun v N1 => v = nI (if w_R C g = 0 then 0 else 1) ∧ kp (fun a j => a = o ∧ j = 6) M N1) := by
  unfold fX2_letsRefuse
  rw [nI0]
  exact sX2_letsRefuse_b2 h ok hso hg (c_n C) 0 q_F M (by omega) (q_Fn (by have := ok.2.2.2.2.1; omega)) kp.rf rfl
/-- weighing: for each slot four bits -/
theorem sX2_weighing_b4 (h : RC1 M o C) (ok : c_ok C) (hso : so ≠ o) (hg : ∀ w, w < 10 → q_a M so 0 w = g w) : ∀ (n i q W : Nat) (N : QM), i + n = c_n C → n < q → kp (fun a j => a = o ∧ j = 6) M N → W < 2 ^ 32 → (∀ s, s < 8 → W / 2 ^ (4 * s) % 16 = fF (fun i => decide (c_S C i = s) && c_H C g i) i) →
    qW (fX2_weighing_b4 q N o so (nI W) (nI i)) (fun v N1 => (∃ V, v = nI V ∧ V < 2 ^ 32 ∧ ∀ s, s < 8 → V / 2 ^ (4 * s) % 16 = w_N C g s) ∧ kp (fun a j => a = o ∧ j = 6) M N1) := by
  have hn := ok.2.2.2.2.1
  intro n
  induction n with
  | zero =>
    intro i q W N hi hq k hW hf
    obtain ⟨q, rfl⟩ : ∃ p, q = p + 1 := ⟨q - 1, by omega⟩
    have e : i = c_n C := hi
    subst e
    have h1 := (h.kept k).1
    simp (disch := omega) only [fX2_weighing_b4, y_lit, y_lt_T, y_lt_F, y_le_T, y_le_F, y_eq_T, y_eq_F, y_in_T, y_cl, ↓reduceIte, y_bs, y_bvs, y_os, y_on, y_t, ne_eq, not_true_eq_false, not_false_eq_true, pk_mul, nI_add, h1]
    exact qW_s ⟨⟨W, rfl, hW, hf⟩, k⟩
  | succ n ih =>
    intro i q W N hi hq k hW hf
    obtain ⟨q, rfl⟩ : ∃ p, q = p + 1 := ⟨q - 1, by omega⟩
    have hN := h.kept k
    have h1 := hN.1
    have hgN : ∀ w, w < 10 → q_a N so 0 w = g w := fun w hw => (k.a (fun z => hso z.1)).trans (hg w hw)
    have hi2 : i < c_n C := by omega
    have hS : c_S C i ≤ 8 := by
      have := (ok.2.2.2.2.2.2.1 i hi2).2.1
      unfold c_S
      split <;> omega
    have go : ∀ N1 V, kp (fun a j => a = o ∧ j = 6) M N1 → V < 2 ^ 32 → (∀ s, s < 8 → V / 2 ^ (4 * s) % 16 = fF (fun i => decide (c_S C i = s) && c_H C g i) (i + 1)) → qW (fX2_weighing_b62 (fun M o0 o1 x2 x3 => fX2_weighing_b4 q M o0 o1 x2 x3) N1 o so (nI V) (nI i)) (fun v N1 => (∃ V, v = nI V ∧ V < 2 ^ 32 ∧ ∀ s, s < 8 → V / 2 ^ (4 * s) % 16 = w_N C g s) ∧ kp (fun a j => a = o ∧ j = 6) M N1) := fun N1 V k1 hV hm => by
      simp only [fX2_weighing_b62, y_lit, nI_add]
      exact ih (i + 1) q V N1 (by omega) (by omega) k1 hV hm
    have stay : (∀ s, s < 8 → c_S C i = s → fF (fun i => decide (c_S C i = s) && c_H C g i) i ≠ 0 ∨ ¬ c_H C g i = true) → ∀ s, s < 8 → W / 2 ^ (4 * s) % 16 = fF (fun i => decide (c_S C i = s) && c_H C g i) (i + 1) := fun hh s hs => by
      rw [hf s hs, fF]
      by_cases z : fF (fun i => decide (c_S C i = s) && c_H C g i) i = 0
      · rw [if_pos z]
        by_cases e : c_S C i = s
        · have := (hh s hs e).resolve_left (fun q => q z)
          rw [(Bool.not_eq_true _).mp this, Bool.and_false, if_neg (by decide), z]
        · rw [decide_eq_false e, Bool.false_and, if_neg (by decide), z]
      · rw [if_neg z]
    simp (disch := omega) only [fX2_weighing_b4, y_lit, y_lt_T, y_lt_F, y_le_T, y_le_F, y_eq_T, y_eq_F, y_in_T, y_cl, ↓reduceIte, y_bs, y_bvs, y_os, y_on, y_t, ne_eq, not_true_eq_false, not_false_eq_true, pk_mul, nI_add, h1, sX2_slotOf hN ok hi2]
    by_cases c8 : c_S C i < 8
    · simp (disch := omega) only [y_lit, y_lt_T, y_lt_F, y_le_T, y_le_F, y_eq_T, y_eq_F, y_in_T, y_cl, ↓reduceIte, y_bs, y_bvs, y_os, y_on, y_t, ne_eq, not_true_eq_false, not_false_eq_true, pk_mul, nI_add, y_nib hW c8]
      have hf8 := hf _ c8
      by_cases z : W / 2 ^ (4 * c_S C i) % 16 = 0
      · rw [z]
        simp (disch := omega) only [y_lit, y_lt_T, y_lt_F, y_le_T, y_le_F, y_eq_T, y_eq_F, y_in_T, y_cl, ↓reduceIte, y_bs, y_bvs, y_os, y_on, y_t, ne_eq, not_true_eq_false, not_false_eq_true, pk_mul, nI_add]
        refine qW_k (sX2_holds hN ok hso hgN hi2) (fun v N1 g1 => ?_)
        obtain ⟨rfl, k1⟩ := g1
        by_cases c : c_I C g i = nI 0
        · rw [if_pos c]
          exact go N1 W (k.tr k1) hW (stay (fun _ _ _ => Or.inr ((hI0 ok hi2).mp c)))
        · rw [if_neg c]
          have hp : c_H C g i = true := by
            by_cases z : c_H C g i = true
            · exact z
            · exact absurd ((hI0 ok hi2).mpr z) c
          have hsh : ∀ s, s < 8 → ((nI (4 * s) &&& nI 31).toBitVec.smod 32).toNat = 4 * s := by decide
          have hpw : (i + 1) * 2 ^ (4 * c_S C i) < 2 ^ 32 := by
            have : 2 ^ (4 * c_S C i) ≤ 2 ^ 28 := Nat.pow_le_pow_right (by decide) (by omega)
            have := Nat.mul_le_mul (show i + 1 ≤ 14 by omega) this
            omega
          rw [pk_shlN _ (4 * c_S C i) (hsh _ c8) hpw, nI_or]
          refine go N1 _ (k.tr k1) (Nat.or_lt_two_pow hW hpw) (fun s hs => ?_)
          rw [y_nibU c8 hs (by omega) z, fF, hf s hs]
          by_cases e : s = c_S C i
          · subst e
            rw [if_pos rfl, if_pos (hf8.symm.trans z), decide_eq_true rfl, hp, if_pos (by decide)]
          · rw [if_neg e]
            have e2 : ¬ c_S C i = s := fun q => e q.symm
            rw [decide_eq_false e2, Bool.false_and]
            by_cases y : fF (fun i => decide (c_S C i = s) && c_H C g i) i = 0
            · rw [if_pos y, y]; rfl
            · rw [if_neg y]
      · have hl : W / 2 ^ (4 * c_S C i) % 16 < 16 := Nat.mod_lt _ (by decide)
        simp (disch := omega) only [y_lit, y_lt_T, y_lt_F, y_le_T, y_le_F, y_eq_T, y_eq_F, y_in_T, y_cl, ↓reduceIte, y_bs, y_bvs, y_os, y_on, y_t, ne_eq, not_true_eq_false, not_false_eq_true, pk_mul, nI_add]
        refine go N W k hW (stay (fun s hs e => Or.inl ?_))
        subst e
        rw [← hf8]
        exact z
    · simp (disch := omega) only [y_lit, y_lt_T, y_lt_F, y_le_T, y_le_F, y_eq_T, y_eq_F, y_in_T, y_cl, ↓reduceIte, y_bs, y_bvs, y_os, y_on, y_t, ne_eq, not_true_eq_false, not_false_eq_true, pk_mul, nI_add]
      exact go N W k hW (stay (fun s hs e => by omega))
theorem sX2_weighing (h : RC1 M o C) (ok : c_ok C) (hso : so ≠ o) (hg : ∀ w, w < 10 → q_a M so 0 w = g w) : qW (fX2_weighing M o so) (fun v N1 => (∃ V, v = nI V ∧ V < 2 ^ 32 ∧ ∀ s, s < 8 → V / 2 ^ (4 * s) % 16 = w_N C g s) ∧ kp (fun a j => a = o ∧ j = 6) M N1) := by
  unfold fX2_weighing
  rw [nI0]
  exact sX2_weighing_b4 h ok hso hg (c_n C) 0 q_F 0 M (by omega) (q_Fn (by have := ok.2.2.2.2.1; omega)) kp.rf (by decide) (fun s _ => by rw [Nat.zero_div]; rfl)
end WEIGH
