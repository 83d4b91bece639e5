/-! pairs: image, back -/
/-- cells from lo on, n of them, out of g -/
def cpF (f : Nat → Int32) (lo n : Nat) (g : Nat → Int32) : Nat → Int32 := fun c => if lo ≤ c ∧ c < lo + n then g (c - lo) else f c
theorem cpF_s {f g : Nat → Int32} {lo n : Nat} : (fun c => if c = lo + n then g n else cpF f lo n g c) = cpF f lo (n + 1) g := by
  funext c
  unfold cpF
  by_cases h : c = lo + n
  · subst h
    rw [if_pos rfl, if_pos (by omega), show lo + n - lo = n by omega]
  · rw [if_neg h]
    by_cases h2 : lo ≤ c ∧ c < lo + n
    · rw [if_pos h2, if_pos (by omega)]
    · rw [if_neg h2, if_neg (by omega)]
theorem cpF_0 {f g : Nat → Int32} {lo : Nat} : cpF f lo 0 g = f := by
  funext c
  unfold cpF
  rw [if_neg (by omega)]
theorem cpF_i {f g : Nat → Int32} {lo n c : Nat} (h : c < n) : cpF f lo n g (lo + c) = g c := by
  unfold cpF
  rw [if_pos (by omega), show lo + c - lo = c by omega]
theorem cpF_o {f g : Nat → Int32} {lo n c : Nat} (h : c < lo ∨ lo + n ≤ c) : cpF f lo n g c = f c := by
  unfold cpF
  rw [if_neg (by omega)]
theorem RB2.eq {P O T P2 O2 T2 : Nat → Int32} {n q : Int32} {B : BK} {nc : Nat} (h : RB2 P O T n q B) (hB : b_ok nc B) (eP : ∀ c, c < 48 → P2 c = P c) (eO : ∀ c, c < 144 → O2 c = O c) (eT : ∀ c, c < 1536 → T2 c = T c) : RB2 P2 O2 T2 n q B := by
  obtain ⟨h1, h2, h3, h4⟩ := h
  have b12 : b_n B ≤ 12 := hB.1
  have b24 : b_q B ≤ 24 := hB.2.1
  refine ⟨h1, h2, fun i hi => ?_, fun k hk => ?_⟩
  · obtain ⟨g1, g2, g3, g4, g5⟩ := h3 i hi
    refine ⟨?_, ?_, ?_, ?_, fun j hj => ?_⟩
    · rw [eP _ (by omega)]; exact g1
    · rw [eP _ (by omega)]; exact g2
    · rw [eP _ (by omega)]; exact g3
    · rw [eP _ (by omega)]; exact g4
    · rw [eO _ (by omega)]; exact g5 j hj
  · obtain ⟨g1, g2, g3, g4, g5, g6, g7, g8, g9⟩ := h4 k hk
    have hQ := hB.2.2.2 k hk
    have n9 : r_n (b_r B k) ≤ 9 := hQ.2.2.2.2.2.2.2.1
    refine ⟨?_, ?_, ?_, ?_, ?_, ?_, ?_, ?_, fun i hi => ?_⟩
    · rw [eT _ (by omega)]; exact g1
    · rw [eT _ (by omega)]; exact g2
    · rw [eT _ (by omega)]; exact g3
    · rw [eT _ (by omega)]; exact g4
    · rw [eT _ (by omega)]; exact g5
    · rw [eT _ (by omega)]; exact g6
    · rw [eT _ (by omega)]; exact g7
    · rw [eT _ (by omega)]; exact g8
    · obtain ⟨f1, f2, f3, f4, f5, f6⟩ := g9 i hi
      refine ⟨?_, ?_, ?_, fun z => ?_, ?_, ?_⟩
      · rw [eT _ (by omega)]; exact f1
      · rw [eT _ (by omega)]; exact f2
      · rw [eT _ (by omega)]; exact f3
      · rw [eT _ (by omega)]; exact f4 z
      · rw [eT _ (by omega)]; exact f5
      · rw [eT _ (by omega)]; exact f6
section IMG
variable {M N0 : QM} {b : Nat}

theorem sX12_image_b113 (hb : b ≤ 5190) : ∀ (d i f : Nat) (M : QM), i + d = 1536 → d < f → kp (fun a j => a = 1000 ∧ j = 44) N0 M → (fun c => q_a M 1000 44 c) = cpF (fun c => q_a N0 1000 44 c) (b + 194) i (fun c => q_a N0 1000 43 c) →
    ∃ N, fX12_image_b113 f M (nI b) (nI i) = fX12_image_b144 N ∧ kp (fun a j => a = 1000 ∧ j = 44) N0 N ∧ (fun c => q_a N 1000 44 c) = cpF (fun c => q_a N0 1000 44 c) (b + 194) 1536 (fun c => q_a N0 1000 43 c) := by
  intro d
  induction d with
  | zero =>
    intro i f M hi hf k e
    obtain ⟨f, rfl⟩ : ∃ p, f = p + 1 := ⟨f - 1, by omega⟩
    have ei : i = 1536 := hi
    subst ei
    refine ⟨M, ?_, k, e⟩
    rw [fX12_image_b113]
    simp (disch := omega) only [y_lit, y_lt_T, y_lt_F, y_le_T, y_le_F, y_eq_T, y_eq_F, y_in_T, y_cl, ↓reduceIte, y_bs, y_bvs, y_os, y_on, y_t, ne_eq, not_true_eq_false, not_false_eq_true, pk_mul, nI_add]
  | succ d ih =>
    intro i f M hi hf k e
    obtain ⟨f, rfl⟩ : ∃ p, f = p + 1 := ⟨f - 1, by omega⟩
    have es : q_a M 1000 43 i = q_a N0 1000 43 i := k.a (by decide)
    obtain ⟨N, f1, f2, f3⟩ := ih (i + 1) f (p_a M 1000 44 (b + 194 + i) (q_a N0 1000 43 i)) (by omega) (by omega) (k.tr (kp_a ⟨rfl, rfl⟩)) (by
      rw [← cpF_s, ← e]
      funext c
      simp only [y_ii, y_ia, y_il, y_ir, y_ai, y_aa, y_al, y_ar, y_li, y_la, y_ll, y_lr, y_ri, y_ra, y_rl, y_rr, and_true, true_and, and_false, false_and, and_self, if_true, if_false, Nat.reduceEqDiff, reduceCtorEq, or_false, false_or, or_true, true_or])
    refine ⟨N, ?_, f2, f3⟩
    rw [fX12_image_b113]
    simp (disch := omega) only [y_lit, y_lt_T, y_lt_F, y_le_T, y_le_F, y_eq_T, y_eq_F, y_in_T, y_cl, ↓reduceIte, y_bs, y_bvs, y_os, y_on, y_t, ne_eq, not_true_eq_false, not_false_eq_true, pk_mul, nI_add, es]
    exact f1

theorem sX12_image_b81 (hb : b ≤ 5190) : ∀ (d i f : Nat) (M : QM), i + d = 144 → d < f → kp (fun a j => a = 1000 ∧ j = 44) N0 M → (fun c => q_a M 1000 44 c) = cpF (fun c => q_a N0 1000 44 c) (b + 50) i (fun c => q_a N0 1000 2 c) →
    ∃ N, fX12_image_b81 f M (nI b) (nI i) = fX12_image_b111 N (nI b) ∧ kp (fun a j => a = 1000 ∧ j = 44) N0 N ∧ (fun c => q_a N 1000 44 c) = cpF (fun c => q_a N0 1000 44 c) (b + 50) 144 (fun c => q_a N0 1000 2 c) := by
  intro d
  induction d with
  | zero =>
    intro i f M hi hf k e
    obtain ⟨f, rfl⟩ : ∃ p, f = p + 1 := ⟨f - 1, by omega⟩
    have ei : i = 144 := hi
    subst ei
    refine ⟨M, ?_, k, e⟩
    rw [fX12_image_b81]
    simp (disch := omega) only [y_lit, y_lt_T, y_lt_F, y_le_T, y_le_F, y_eq_T, y_eq_F, y_in_T, y_cl, ↓reduceIte, y_bs, y_bvs, y_os, y_on, y_t, ne_eq, not_true_eq_false, not_false_eq_true, pk_mul, nI_add]
  | succ d ih =>
    intro i f M hi hf k e
    obtain ⟨f, rfl⟩ : ∃ p, f = p + 1 := ⟨f - 1, by omega⟩
    have es : q_a M 1000 2 i = q_a N0 1000 2 i := k.a (by decide)
    obtain ⟨N, f1, f2, f3⟩ := ih (i + 1) f (p_a M 1000 44 (b + 50 + i) (q_a N0 1000 2 i)) (by omega) (by omega) (k.tr (kp_a ⟨rfl, rfl⟩)) (by
      rw [← cpF_s, ← e]
      funext c
      simp only [y_ii, y_ia, y_il, y_ir, y_ai, y_aa, y_al, y_ar, y_li, y_la, y_ll, y_lr, y_ri, y_ra, y_rl, y_rr, and_true, true_and, and_false, false_and, and_self, if_true, if_false, Nat.reduceEqDiff, reduceCtorEq, or_false, false_or, or_true, true_or])
    refine ⟨N, ?_, f2, f3⟩
    rw [fX12_image_b81]
    simp (disch := omega) only [y_lit, y_lt_T, y_lt_F, y_le_T, y_le_F, y_eq_T, y_eq_F, y_in_T, y_cl, ↓reduceIte, y_bs, y_bvs, y_os, y_on, y_t, ne_eq, not_true_eq_false, not_false_eq_true, pk_mul, nI_add, es]
    exact f1

theorem sX12_image_b51 (hb : b ≤ 5190) : ∀ (d i f : Nat) (M : QM), i + d = 48 → d < f → kp (fun a j => a = 1000 ∧ j = 44) N0 M → (fun c => q_a M 1000 44 c) = cpF (fun c => q_a N0 1000 44 c) (b + 2) i (fun c => q_a N0 1000 1 c) →
    ∃ N, fX12_image_b51 f M (nI b) (nI i) = fX12_image_b79 N (nI b) ∧ kp (fun a j => a = 1000 ∧ j = 44) N0 N ∧ (fun c => q_a N 1000 44 c) = cpF (fun c => q_a N0 1000 44 c) (b + 2) 48 (fun c => q_a N0 1000 1 c) := by
  intro d
  induction d with
  | zero =>
    intro i f M hi hf k e
    obtain ⟨f, rfl⟩ : ∃ p, f = p + 1 := ⟨f - 1, by omega⟩
    have ei : i = 48 := hi
    subst ei
    refine ⟨M, ?_, k, e⟩
    rw [fX12_image_b51]
    simp (disch := omega) only [y_lit, y_lt_T, y_lt_F, y_le_T, y_le_F, y_eq_T, y_eq_F, y_in_T, y_cl, ↓reduceIte, y_bs, y_bvs, y_os, y_on, y_t, ne_eq, not_true_eq_false, not_false_eq_true, pk_mul, nI_add]
  | succ d ih =>
    intro i f M hi hf k e
    obtain ⟨f, rfl⟩ : ∃ p, f = p + 1 := ⟨f - 1, by omega⟩
    have es : q_a M 1000 1 i = q_a N0 1000 1 i := k.a (by decide)
    obtain ⟨N, f1, f2, f3⟩ := ih (i + 1) f (p_a M 1000 44 (b + 2 + i) (q_a N0 1000 1 i)) (by omega) (by omega) (k.tr (kp_a ⟨rfl, rfl⟩)) (by
      rw [← cpF_s, ← e]
      funext c
      simp only [y_ii, y_ia, y_il, y_ir, y_ai, y_aa, y_al, y_ar, y_li, y_la, y_ll, y_lr, y_ri, y_ra, y_rl, y_rr, and_true, true_and, and_false, false_and, and_self, if_true, if_false, Nat.reduceEqDiff, reduceCtorEq, or_false, false_or, or_true, true_or])
    refine ⟨N, ?_, f2, f3⟩
    rw [fX12_image_b51]
    simp (disch := omega) only [y_lit, y_lt_T, y_lt_F, y_le_T, y_le_F, y_eq_T, y_eq_F, y_in_T, y_cl, ↓reduceIte, y_bs, y_bvs, y_os, y_on, y_t, ne_eq, not_true_eq_false, not_false_eq_true, pk_mul, nI_add, es]
    exact f1

theorem sX12_back_b115 (hb : b ≤ 5190) : ∀ (d i f : Nat) (M : QM), i + d = 1536 → d < f → kp (fun a j => a = 1000 ∧ j = 43) N0 M → (fun c => q_a M 1000 43 c) = cpF (fun c => q_a N0 1000 43 c) 0 i (fun c => q_a N0 1000 44 (b + 194 + c)) →
    ∃ N, fX12_back_b115 f M (nI b) (nI i) = fX12_back_b146 N ∧ kp (fun a j => a = 1000 ∧ j = 43) N0 N ∧ (fun c => q_a N 1000 43 c) = cpF (fun c => q_a N0 1000 43 c) 0 1536 (fun c => q_a N0 1000 44 (b + 194 + c)) := by
  intro d
  induction d with
  | zero =>
    intro i f M hi hf k e
    obtain ⟨f, rfl⟩ : ∃ p, f = p + 1 := ⟨f - 1, by omega⟩
    have ei : i = 1536 := hi
    subst ei
    refine ⟨M, ?_, k, e⟩
    rw [fX12_back_b115]
    simp (disch := omega) only [y_lit, y_lt_T, y_lt_F, y_le_T, y_le_F, y_eq_T, y_eq_F, y_in_T, y_cl, ↓reduceIte, y_bs, y_bvs, y_os, y_on, y_t, ne_eq, not_true_eq_false, not_false_eq_true, pk_mul, nI_add]
  | succ d ih =>
    intro i f M hi hf k e
    obtain ⟨f, rfl⟩ : ∃ p, f = p + 1 := ⟨f - 1, by omega⟩
    have es : q_a M 1000 44 (b + 194 + i) = q_a N0 1000 44 (b + 194 + i) := k.a (by decide)
    obtain ⟨N, f1, f2, f3⟩ := ih (i + 1) f (p_a M 1000 43 i (q_a N0 1000 44 (b + 194 + i))) (by omega) (by omega) (k.tr (kp_a ⟨rfl, rfl⟩)) (by
      rw [← cpF_s, ← e]
      funext c
      simp only [y_ii, y_ia, y_il, y_ir, y_ai, y_aa, y_al, y_ar, y_li, y_la, y_ll, y_lr, y_ri, y_ra, y_rl, y_rr, and_true, true_and, and_false, false_and, and_self, if_true, if_false, Nat.reduceEqDiff, reduceCtorEq, or_false, false_or, or_true, true_or, Nat.zero_add])
    refine ⟨N, ?_, f2, f3⟩
    rw [fX12_back_b115]
    simp (disch := omega) only [y_lit, y_lt_T, y_lt_F, y_le_T, y_le_F, y_eq_T, y_eq_F, y_in_T, y_cl, ↓reduceIte, y_bs, y_bvs, y_os, y_on, y_t, ne_eq, not_true_eq_false, not_false_eq_true, pk_mul, nI_add, es]
    exact f1

theorem sX12_back_b83 (hb : b ≤ 5190) : ∀ (d i f : Nat) (M : QM), i + d = 144 → d < f → kp (fun a j => a = 1000 ∧ j = 2) N0 M → (fun c => q_a M 1000 2 c) = cpF (fun c => q_a N0 1000 2 c) 0 i (fun c => q_a N0 1000 44 (b + 50 + c)) →
    ∃ N, fX12_back_b83 f M (nI b) (nI i) = fX12_back_b113 N (nI b) ∧ kp (fun a j => a = 1000 ∧ j = 2) N0 N ∧ (fun c => q_a N 1000 2 c) = cpF (fun c => q_a N0 1000 2 c) 0 144 (fun c => q_a N0 1000 44 (b + 50 + c)) := by
  intro d
  induction d with
  | zero =>
    intro i f M hi hf k e
    obtain ⟨f, rfl⟩ : ∃ p, f = p + 1 := ⟨f - 1, by omega⟩
    have ei : i = 144 := hi
    subst ei
    refine ⟨M, ?_, k, e⟩
    rw [fX12_back_b83]
    simp (disch := omega) only [y_lit, y_lt_T, y_lt_F, y_le_T, y_le_F, y_eq_T, y_eq_F, y_in_T, y_cl, ↓reduceIte, y_bs, y_bvs, y_os, y_on, y_t, ne_eq, not_true_eq_false, not_false_eq_true, pk_mul, nI_add]
  | succ d ih =>
    intro i f M hi hf k e
    obtain ⟨f, rfl⟩ : ∃ p, f = p + 1 := ⟨f - 1, by omega⟩
    have es : q_a M 1000 44 (b + 50 + i) = q_a N0 1000 44 (b + 50 + i) := k.a (by decide)
    obtain ⟨N, f1, f2, f3⟩ := ih (i + 1) f (p_a M 1000 2 i (q_a N0 1000 44 (b + 50 + i))) (by omega) (by omega) (k.tr (kp_a ⟨rfl, rfl⟩)) (by
      rw [← cpF_s, ← e]
      funext c
      simp only [y_ii, y_ia, y_il, y_ir, y_ai, y_aa, y_al, y_ar, y_li, y_la, y_ll, y_lr, y_ri, y_ra, y_rl, y_rr, and_true, true_and, and_false, false_and, and_self, if_true, if_false, Nat.reduceEqDiff, reduceCtorEq, or_false, false_or, or_true, true_or, Nat.zero_add])
    refine ⟨N, ?_, f2, f3⟩
    rw [fX12_back_b83]
    simp (disch := omega) only [y_lit, y_lt_T, y_lt_F, y_le_T, y_le_F, y_eq_T, y_eq_F, y_in_T, y_cl, ↓reduceIte, y_bs, y_bvs, y_os, y_on, y_t, ne_eq, not_true_eq_false, not_false_eq_true, pk_mul, nI_add, es]
    exact f1

theorem sX12_back_b53 (hb : b ≤ 5190) : ∀ (d i f : Nat) (M : QM), i + d = 48 → d < f → kp (fun a j => a = 1000 ∧ j = 1) N0 M → (fun c => q_a M 1000 1 c) = cpF (fun c => q_a N0 1000 1 c) 0 i (fun c => q_a N0 1000 44 (b + 2 + c)) →
    ∃ N, fX12_back_b53 f M (nI b) (nI i) = fX12_back_b81 N (nI b) ∧ kp (fun a j => a = 1000 ∧ j = 1) N0 N ∧ (fun c => q_a N 1000 1 c) = cpF (fun c => q_a N0 1000 1 c) 0 48 (fun c => q_a N0 1000 44 (b + 2 + c)) := by
  intro d
  induction d with
  | zero =>
    intro i f M hi hf k e
    obtain ⟨f, rfl⟩ : ∃ p, f = p + 1 := ⟨f - 1, by omega⟩
    have ei : i = 48 := hi
    subst ei
    refine ⟨M, ?_, k, e⟩
    rw [fX12_back_b53]
    simp (disch := omega) only [y_lit, y_lt_T, y_lt_F, y_le_T, y_le_F, y_eq_T, y_eq_F, y_in_T, y_cl, ↓reduceIte, y_bs, y_bvs, y_os, y_on, y_t, ne_eq, not_true_eq_false, not_false_eq_true, pk_mul, nI_add]
  | succ d ih =>
    intro i f M hi hf k e
    obtain ⟨f, rfl⟩ : ∃ p, f = p + 1 := ⟨f - 1, by omega⟩
    have es : q_a M 1000 44 (b + 2 + i) = q_a N0 1000 44 (b + 2 + i) := k.a (by decide)
    obtain ⟨N, f1, f2, f3⟩ := ih (i + 1) f (p_a M 1000 1 i (q_a N0 1000 44 (b + 2 + i))) (by omega) (by omega) (k.tr (kp_a ⟨rfl, rfl⟩)) (by
      rw [← cpF_s, ← e]
      funext c
      simp only [y_ii, y_ia, y_il, y_ir, y_ai, y_aa, y_al, y_ar, y_li, y_la, y_ll, y_lr, y_ri, y_ra, y_rl, y_rr, and_true, true_and, and_false, false_and, and_self, if_true, if_false, Nat.reduceEqDiff, reduceCtorEq, or_false, false_or, or_true, true_or, Nat.zero_add])
    refine ⟨N, ?_, f2, f3⟩
    rw [fX12_back_b53]
    simp (disch := omega) only [y_lit, y_lt_T, y_lt_F, y_le_T, y_le_F, y_eq_T, y_eq_F, y_in_T, y_cl, ↓reduceIte, y_bs, y_bvs, y_os, y_on, y_t, ne_eq, not_true_eq_false, not_false_eq_true, pk_mul, nI_add, es]
    exact f1

end IMG
