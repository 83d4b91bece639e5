/-! the reference's code: all clauses -/
def SCd (a j : Nat) : Prop := a = 1000 ∧ (6 ≤ j ∧ j ≤ 16 ∨ 18 ≤ j ∧ j ≤ 21)
/-- but for text t all rows stay -/
def FC (t : Nat) (M N : QM) : Prop := kp SCd M N ∧ (∀ c, c < 400 * t → q_a N 1000 6 c = q_a M 1000 6 c) ∧ (∀ c, c < 70 * t → q_a N 1000 8 c = q_a M 1000 8 c) ∧ ∀ j, 9 ≤ j → j ≤ 13 → ∀ c, c ≠ t → q_a N 1000 j c = q_a M 1000 j c
theorem FC.tr {t : Nat} {M N K : QM} (h : FC t M N) (g : FC t N K) : FC t M K := ⟨h.1.tr g.1, fun c hc => (g.2.1 c hc).trans (h.2.1 c hc), fun c hc => (g.2.2.1 c hc).trans (h.2.2.1 c hc), fun j a1 a2 c hc => (g.2.2.2 j a1 a2 c hc).trans (h.2.2.2 j a1 a2 c hc)⟩
theorem FC.rf {t : Nat} {M : QM} : FC t M M := ⟨kp.rf, fun _ _ => rfl, fun _ _ => rfl, fun _ _ _ _ _ => rfl⟩
theorem FC.ofK {t W : Nat} {M N : QM} (k : FK t W M N) : FC t M N := ⟨k.1.wd (fun a j z => ⟨z.1, by have := z.2; omega⟩), k.2.1, fun c hc => k.2.2.1 c (by omega), fun j a1 a2 c hc => by
  by_cases e : j = 9
  · rw [e]
    exact k.2.2.2 c hc
  · exact k.1.a (fun z => by have := z.2; omega)⟩
theorem FC.ofN {t : Nat} {M N : QM} (k : kp SN M N) : FC t M N := FC.ofK (W := 0) (FK.ofN k)
theorem FC.of10 {t : Nat} {M : QM} (x : Int32) : FC t M (p_a M 1000 10 t x) := ⟨kp_a ⟨rfl, by decide⟩, fun c _ => by simp only [y_ii, y_ia, y_il, y_ir, y_ai, y_aa, y_al, y_ar, y_li, y_la, y_ll, y_lr, y_ri, y_ra, y_rl, y_rr, and_true, true_and, and_false, false_and, and_self, if_true, if_false, Nat.reduceEqDiff, reduceCtorEq, or_false, false_or, or_true, true_or], fun c _ => by simp only [y_ii, y_ia, y_il, y_ir, y_ai, y_aa, y_al, y_ar, y_li, y_la, y_ll, y_lr, y_ri, y_ra, y_rl, y_rr, and_true, true_and, and_false, false_and, and_self, if_true, if_false, Nat.reduceEqDiff, reduceCtorEq, or_false, false_or, or_true, true_or], fun j _ _ c hc => by simp only [y_ii, y_ia, y_il, y_ir, y_ai, y_aa, y_al, y_ar, y_li, y_la, y_ll, y_lr, y_ri, y_ra, y_rl, y_rr, and_true, true_and, and_false, false_and, and_self, if_true, if_false, Nat.reduceEqDiff, reduceCtorEq, or_false, false_or, or_true, true_or, hc]⟩
theorem FC.of15 {t : Nat} {M : QM} (x : Int32) : FC t M (p_i M 1000 15 x) := ⟨kp_i ⟨rfl, by decide⟩, fun c _ => by simp only [y_ii, y_ia, y_il, y_ir, y_ai, y_aa, y_al, y_ar, y_li, y_la, y_ll, y_lr, y_ri, y_ra, y_rl, y_rr, and_true, true_and, and_false, false_and, and_self, if_true, if_false, Nat.reduceEqDiff, reduceCtorEq, or_false, false_or, or_true, true_or], fun c _ => by simp only [y_ii, y_ia, y_il, y_ir, y_ai, y_aa, y_al, y_ar, y_li, y_la, y_ll, y_lr, y_ri, y_ra, y_rl, y_rr, and_true, true_and, and_false, false_and, and_self, if_true, if_false, Nat.reduceEqDiff, reduceCtorEq, or_false, false_or, or_true, true_or], fun j _ _ c hc => by simp only [y_ii, y_ia, y_il, y_ir, y_ai, y_aa, y_al, y_ar, y_li, y_la, y_ll, y_lr, y_ri, y_ra, y_rl, y_rr, and_true, true_and, and_false, false_and, and_self, if_true, if_false, Nat.reduceEqDiff, reduceCtorEq, or_false, false_or, or_true, true_or]⟩
theorem FC.ofJ {t j0 : Nat} {M N : QM} (k : kp (SJ j0) M N) (hj : 11 ≤ j0 ∧ j0 ≤ 13) (h : ∀ c, c ≠ t → q_a N 1000 j0 c = q_a M 1000 j0 c) : FC t M N := ⟨k.wd (fun a j z => ⟨z.1, by have := z.2; omega⟩), fun c _ => k.a (fun z => by have := z.2; omega), fun c _ => k.a (fun z => by have := z.2; omega), fun j a1 a2 c hc => by
  by_cases e : j = j0
  · rw [e]
    exact h c hc
  · exact k.a (fun z => by have := z.2; omega)⟩
def MV (M : QM) (t : Nat) (H : HD) : Prop := q_a M 1000 11 t = (if hs H 3 = true then nI H.1.1 else -nI 1) ∧ q_a M 1000 12 t = (if hs H 4 = true then nI H.1.2.1 else -nI 1) ∧ q_a M 1000 13 t = (if hs H 5 = true then nI H.1.2.2 else -nI 1)
def RWs (M : QM) (t : Nat) (C : CD) : Prop := ∀ i, i < c_n C → c_s C i < 3 → Row M t (c_w C i) (C.2.1.2 i) (c_t C i)
/-- the reference has read the clauses H and the steps of s -/
def R2H (M : QM) (b : Nat → Nat) (n t r : Nat) (H : HD) (s : PZ) : Prop := RD M b n t r s ∧ q_a M 1000 10 t = nI (h_n H) ∧ q_a M 1000 9 t = nI (c_w (mkC H s) (h_n H)) ∧ RWs M t (mkC H s) ∧ MV M t H
def PCl (b : Nat → Nat) (n t : Nat) (M : QM) (r : Except Nat (HD × PZ)) (v : Int32) (N : QM) : Prop := FC t M N ∧ match r with
  | .ok y => v = nI 1 ∧ ∃ r, R2H N b n t r y.1 y.2
  | .error e => v = nI 0 ∧ q_i N 1000 15 = nI e
theorem c_w_e {C D : CD} : ∀ {i : Nat}, (∀ j, j < i → c_s C j = c_s D j) → c_w C i = c_w D i
  | 0, _ => rfl
  | i + 1, h => by
    unfold c_w
    rw [c_w_e (fun j hj => h j (by omega)), h i (by omega)]
theorem hsF_e {C D : Nat → CL} {w : Nat} : ∀ {n : Nat}, (∀ i, i < n → (C i).1 = (D i).1) → hsF C w n = hsF D w n
  | 0, _ => rfl
  | n + 1, h => by
    unfold hsF
    rw [hsF_e (fun i hi => h i (by omega)), h n (by omega)]
theorem hf_1 (H : HD) (z i : Nat) : (hf H z i).1 = (H.2.2 i).1 := by
  unfold hf
  split <;> rfl
theorem hs_c (H : HD) (z w k v w2 : Nat) : hs (h_c H z w k v) w2 = (hs H w2 || decide (w = w2)) := by
  show (hsF (u_f (hf H z) (h_n H) (w, k, v, z, z)) w2 (h_n H) || decide ((u_f (hf H z) (h_n H) (w, k, v, z, z) (h_n H)).1 = w2)) = _
  rw [u_f_e, hsF_e (D := H.2.2) (fun i hi => by rw [u_f_n _ _ (by omega), hf_1])]
  rfl
section CODE2
variable {M N : QM} {b : Nat → Nat} {n t r : Nat} {s : PZ} {H : HD}
theorem R2H.ofN {r2 : Nat} (R : R2H M b n t r H s) (k : kp SN M N) (R2 : RD N b n t r2 s) : R2H N b n t r2 H s := by
  obtain ⟨h1, h2, h3, h4, h5, h6, h7⟩ := R
  have nS : ∀ {j : Nat}, j ≠ 14 → ¬ SN 1000 j := fun hj => not_SN hj
  refine ⟨R2, (k.a (nS (by decide))).trans h2, (k.a (nS (by decide))).trans h3, fun i a1 a2 => ?_, (k.a (nS (by decide))).trans h5, (k.a (nS (by decide))).trans h6, (k.a (nS (by decide))).trans h7⟩
  obtain ⟨g1, g2, g3, g4, g5⟩ := h4 i a1 a2
  exact ⟨(k.a (nS (by decide))).trans g1, (k.a (nS (by decide))).trans g2, (k.a (nS (by decide))).trans g3, (k.a (nS (by decide))).trans g4, (k.a (nS (by decide))).trans g5⟩
theorem R2H.conv1 (R : R2H M b n t r H s) {y : HD × PZ} {w k v : Nat} (hw : w < 3) (ey : y.1 = h_c H (z_z s) w k v) (kF : FK t (c_w (mkC H s) (h_n H)) (p_a M 1000 10 t (nI (h_n H + 1))) N) (hD : ∃ r, RD N b n t r y.2) (h9 : q_a N 1000 9 t = nI (c_w (mkC H s) (h_n H) + 1)) (hrow : Row N t (c_w (mkC H s) (h_n H)) (y.1.2.2 (h_n H)) (z_z y.2)) : ∃ r, R2H N b n t r y.1 y.2 := by
  obtain ⟨h1, h2, h3, h4, h5, h6, h7⟩ := R
  obtain ⟨r2, hD⟩ := hD
  obtain ⟨H1, s2⟩ := y
  have ey : H1 = h_c H (z_z s) w k v := ey
  subst ey
  have ecl : ∀ i, (mkC (h_c H (z_z s) w k v) s2).2.1.2 i = if i = h_n H then (w, k, v, z_z s, z_z s2) else (mkC H s).2.1.2 i := fun i => hf_c i
  have esl : ∀ i, i < h_n H → c_s (mkC (h_c H (z_z s) w k v) s2) i = c_s (mkC H s) i := fun i hi => by
    show ((mkC (h_c H (z_z s) w k v) s2).2.1.2 i).1 = _
    rw [ecl, if_neg (by omega)]
    rfl
  have ew : ∀ i, i ≤ h_n H → c_w (mkC (h_c H (z_z s) w k v) s2) i = c_w (mkC H s) i := fun i hi => c_w_e (fun j hj => esl j (by omega))
  have esn : c_s (mkC (h_c H (z_z s) w k v) s2) (h_n H) = w := by
    show ((mkC (h_c H (z_z s) w k v) s2).2.1.2 (h_n H)).1 = _
    rw [ecl, if_pos rfl]
  refine ⟨r2, hD, ?_, ?_, fun i a1 a2 => ?_, ?_, ?_, ?_⟩
  · rw [kF.1.a (fun z => by have := z.2; omega)]
    simp only [y_ii, y_ia, y_il, y_ir, y_ai, y_aa, y_al, y_ar, y_li, y_la, y_ll, y_lr, y_ri, y_ra, y_rl, y_rr, and_true, true_and, and_false, false_and, and_self, if_true, if_false, Nat.reduceEqDiff, reduceCtorEq, or_false, false_or, or_true, true_or]
    rfl
  · show _ = nI (c_w (mkC (h_c H (z_z s) w k v) s2) (h_n H) + if c_s (mkC (h_c H (z_z s) w k v) s2) (h_n H) < 3 then 1 else 0)
    rw [esn, if_pos hw, ew _ (Nat.le_refl _)]
    exact h9
  · have a1 : i < h_n H + 1 := a1
    by_cases c : i = h_n H
    · subst c
      have ex : (h_c H (z_z s) w k v).2.2 (h_n H) = (w, k, v, z_z s, z_z s) := u_f_e _ _ _
      have hrow : Row N t (c_w (mkC H s) (h_n H)) ((h_c H (z_z s) w k v).2.2 (h_n H)) (z_z s2) := hrow
      rw [ex] at hrow
      show Row N t _ ((mkC (h_c H (z_z s) w k v) s2).2.1.2 (h_n H)) ((mkC (h_c H (z_z s) w k v) s2).2.1.2 (h_n H)).2.2.2.2
      rw [ew _ (Nat.le_refl _), ecl, if_pos rfl]
      exact hrow
    · have hi : i < h_n H := by omega
      rw [esl i hi] at a2
      have g := h4 i hi a2
      have lt := c_w_lt (C := mkC H s) a2 hi
      show Row N t _ ((mkC (h_c H (z_z s) w k v) s2).2.1.2 i) ((mkC (h_c H (z_z s) w k v) s2).2.1.2 i).2.2.2.2
      rw [ew _ (by omega), ecl, if_neg c]
      have sm : ∀ c, c < 70 * t + 5 * c_w (mkC H s) (h_n H) → q_a N 1000 8 c = q_a M 1000 8 c := fun c hc => (kF.2.2.1 c hc).trans (by simp only [y_ii, y_ia, y_il, y_ir, y_ai, y_aa, y_al, y_ar, y_li, y_la, y_ll, y_lr, y_ri, y_ra, y_rl, y_rr, and_true, true_and, and_false, false_and, and_self, if_true, if_false, Nat.reduceEqDiff, reduceCtorEq, or_false, false_or, or_true, true_or])
      obtain ⟨g1, g2, g3, g4, g5⟩ := g
      exact ⟨(sm _ (by omega)).trans g1, (sm _ (by omega)).trans g2, (sm _ (by omega)).trans g3, (sm _ (by omega)).trans g4, (sm _ (by omega)).trans g5⟩
  · rw [kF.1.a (fun z => by have := z.2; omega), hs_c, decide_eq_false (by omega), Bool.or_false]
    simp only [y_ii, y_ia, y_il, y_ir, y_ai, y_aa, y_al, y_ar, y_li, y_la, y_ll, y_lr, y_ri, y_ra, y_rl, y_rr, and_true, true_and, and_false, false_and, and_self, if_true, if_false, Nat.reduceEqDiff, reduceCtorEq, or_false, false_or, or_true, true_or]
    exact h5
  · rw [kF.1.a (fun z => by have := z.2; omega), hs_c, decide_eq_false (by omega), Bool.or_false]
    simp only [y_ii, y_ia, y_il, y_ir, y_ai, y_aa, y_al, y_ar, y_li, y_la, y_ll, y_lr, y_ri, y_ra, y_rl, y_rr, and_true, true_and, and_false, false_and, and_self, if_true, if_false, Nat.reduceEqDiff, reduceCtorEq, or_false, false_or, or_true, true_or]
    exact h6
  · rw [kF.1.a (fun z => by have := z.2; omega), hs_c, decide_eq_false (by omega), Bool.or_false]
    simp only [y_ii, y_ia, y_il, y_ir, y_ai, y_aa, y_al, y_ar, y_li, y_la, y_ll, y_lr, y_ri, y_ra, y_rl, y_rr, and_true, true_and, and_false, false_and, and_self, if_true, if_false, Nat.reduceEqDiff, reduceCtorEq, or_false, false_or, or_true, true_or]
    exact h7
theorem R2H.conv2 (R : R2H M b n t r H s) {y : HD × PZ} {w v : Nat} (hw : w = 3 ∨ w = 4 ∨ w = 5) (ey : y.1 = h_m (h_c H (z_z s) w 0 v) w v) (kF : kp (SJ (8 + w)) (p_a M 1000 10 t (nI (h_n H + 1))) N) (hD : ∃ r, RD N b n t r y.2) (hv : q_a N 1000 (8 + w) t = nI v) : ∃ r, R2H N b n t r y.1 y.2 := by
  obtain ⟨h1, h2, h3, h4, h5, h6, h7⟩ := R
  obtain ⟨r2, hD⟩ := hD
  obtain ⟨H1, s2⟩ := y
  have ey : H1 = h_m (h_c H (z_z s) w 0 v) w v := ey
  subst ey
  have ecl : ∀ i, (mkC (h_m (h_c H (z_z s) w 0 v) w v) s2).2.1.2 i = if i = h_n H then (w, 0, v, z_z s, z_z s2) else (mkC H s).2.1.2 i := fun i => hf_c i
  have esl : ∀ i, i < h_n H → c_s (mkC (h_m (h_c H (z_z s) w 0 v) w v) s2) i = c_s (mkC H s) i := fun i hi => by
    show ((mkC (h_m (h_c H (z_z s) w 0 v) w v) s2).2.1.2 i).1 = _
    rw [ecl, if_neg (by omega)]
    rfl
  have ew : ∀ i, i ≤ h_n H → c_w (mkC (h_m (h_c H (z_z s) w 0 v) w v) s2) i = c_w (mkC H s) i := fun i hi => c_w_e (fun j hj => esl j (by omega))
  have esn : c_s (mkC (h_m (h_c H (z_z s) w 0 v) w v) s2) (h_n H) = w := by
    show ((mkC (h_m (h_c H (z_z s) w 0 v) w v) s2).2.1.2 (h_n H)).1 = _
    rw [ecl, if_pos rfl]
  have ehs : ∀ w2, hs (h_m (h_c H (z_z s) w 0 v) w v) w2 = (hs H w2 || decide (w = w2)) := fun w2 => hs_c H (z_z s) w 0 v w2
  have sm : ∀ j c, j ≠ 8 + w → j < 14 → q_a N 1000 j c = q_a (p_a M 1000 10 t (nI (h_n H + 1))) 1000 j c := fun j c hj hj2 => kF.a (fun z => by have := z.2; omega)
  refine ⟨r2, hD, ?_, ?_, fun i a1 a2 => ?_, ?_⟩
  · rw [sm 10 t (by omega) (by omega)]
    simp only [y_ii, y_ia, y_il, y_ir, y_ai, y_aa, y_al, y_ar, y_li, y_la, y_ll, y_lr, y_ri, y_ra, y_rl, y_rr, and_true, true_and, and_false, false_and, and_self, if_true, if_false, Nat.reduceEqDiff, reduceCtorEq, or_false, false_or, or_true, true_or]
    rfl
  · show _ = nI (c_w (mkC (h_m (h_c H (z_z s) w 0 v) w v) s2) (h_n H) + if c_s (mkC (h_m (h_c H (z_z s) w 0 v) w v) s2) (h_n H) < 3 then 1 else 0)
    rw [esn, if_neg (by omega), ew _ (Nat.le_refl _), sm 9 t (by omega) (by omega)]
    simp only [y_ii, y_ia, y_il, y_ir, y_ai, y_aa, y_al, y_ar, y_li, y_la, y_ll, y_lr, y_ri, y_ra, y_rl, y_rr, and_true, true_and, and_false, false_and, and_self, if_true, if_false, Nat.reduceEqDiff, reduceCtorEq, or_false, false_or, or_true, true_or]
    exact h3
  · have a1 : i < h_n H + 1 := a1
    by_cases c : i = h_n H
    · rw [c, esn] at a2
      omega
    · have hi : i < h_n H := by omega
      rw [esl i hi] at a2
      obtain ⟨g1, g2, g3, g4, g5⟩ := h4 i hi a2
      show Row N t _ ((mkC (h_m (h_c H (z_z s) w 0 v) w v) s2).2.1.2 i) ((mkC (h_m (h_c H (z_z s) w 0 v) w v) s2).2.1.2 i).2.2.2.2
      rw [ew _ (by omega), ecl, if_neg c]
      have sm : ∀ c, q_a N 1000 8 c = q_a M 1000 8 c := fun c => (sm 8 c (by omega) (by omega)).trans (by simp only [y_ii, y_ia, y_il, y_ir, y_ai, y_aa, y_al, y_ar, y_li, y_la, y_ll, y_lr, y_ri, y_ra, y_rl, y_rr, and_true, true_and, and_false, false_and, and_self, if_true, if_false, Nat.reduceEqDiff, reduceCtorEq, or_false, false_or, or_true, true_or])
      exact ⟨(sm _).trans g1, (sm _).trans g2, (sm _).trans g3, (sm _).trans g4, (sm _).trans g5⟩
  · unfold MV
    rw [ehs 3, ehs 4, ehs 5]
    have q10 : ∀ j, 10 < j → q_a (p_a M 1000 10 t (nI (h_n H + 1))) 1000 j t = q_a M 1000 j t := fun j hj => by simp only [y_ii, y_ia, y_il, y_ir, y_ai, y_aa, y_al, y_ar, y_li, y_la, y_ll, y_lr, y_ri, y_ra, y_rl, y_rr, and_true, true_and, and_false, false_and, and_self, if_true, if_false, Nat.reduceEqDiff, reduceCtorEq, or_false, false_or, or_true, true_or, show ¬ j = 10 by omega]
    rcases hw with e | e | e <;> subst e
    · rw [sm 12 t (by decide) (by decide), sm 13 t (by decide) (by decide), q10 12 (by decide), q10 13 (by decide), decide_eq_true rfl, Bool.or_true, if_pos rfl, decide_eq_false (by decide), Bool.or_false, decide_eq_false (by decide), Bool.or_false]
      exact ⟨hv, h6, h7⟩
    · rw [sm 11 t (by decide) (by decide), sm 13 t (by decide) (by decide), q10 11 (by decide), q10 13 (by decide), decide_eq_false (by decide), Bool.or_false, decide_eq_true rfl, Bool.or_true, if_pos rfl, decide_eq_false (by decide), Bool.or_false]
      exact ⟨h5, hv, h7⟩
    · rw [sm 11 t (by decide) (by decide), sm 12 t (by decide) (by decide), q10 11 (by decide), q10 12 (by decide), decide_eq_false (by decide), Bool.or_false, decide_eq_false (by decide), Bool.or_false, decide_eq_true rfl, Bool.or_true, if_pos rfl]
      exact ⟨h5, h6, hv⟩
theorem sX12_clauseHere_b70 (R : R2H M b n t (z_p s) H s) (ok : tp_ok n b) (ht : t < 6) (hz : BZ n 0 s) (h14 : h_n H ≤ 14) (hm : H.1.1 < 16 ∧ H.1.2.1 < 9 ∧ H.1.2.2 < 16) (h6 : p_kd b n s < 6) : qW (fX12_clauseHere_b70 M (nI (z_p s))) (PCl b n t M (x_g (p_hd b n H s) (p_ts b n))) := by
  have hn := ok.1
  have R0 := R.1
  have hr := R0.2.2.2.1
  have e10 := R.2.1
  unfold fX12_clauseHere_b70 fX12_clauseHere_b75 p_hd
  rw [if_pos (by decide), if_pos h6]
  simp (disch := omega) only [y_in_T, y_cl, ↓reduceIte, R0.2.1, e10]
  by_cases c14 : 14 ≤ h_n H
  · have e : h_n H = 14 := by omega
    rw [if_pos c14, e, if_neg (by decide), show fX12_fails M (4 : Int32) (nI (z_p s)) = _ from sX12_fails R0.2.2.2.2.2.1 (k := 4) (by decide) (by omega), q_b_s, if_pos (by decide)]
    refine qW_s ⟨FC.of15 _, rfl, ?_⟩
    simp only [y_ii, y_ia, y_il, y_ir, y_ai, y_aa, y_al, y_ar, y_li, y_la, y_ll, y_lr, y_ri, y_ra, y_rl, y_rr, and_true, true_and, and_false, false_and, and_self, if_true, if_false, Nat.reduceEqDiff, reduceCtorEq, or_false, false_or, or_true, true_or]
  · rw [if_neg c14, if_pos (show nI (h_n H) ≠ (14 : Int32) from fun z => absurd ((nI_eq (by omega) (by decide)).mp (show nI (h_n H) = nI 14 from z)) (by omega)), show nI (h_n H) + (1 : Int32) = nI (h_n H + 1) from nI_add _ 1, q_t]
    have kC : kp (fun a j => a = 1000 ∧ j = 10) M (p_a M 1000 10 t (nI (h_n H + 1))) := kp_a ⟨rfl, rfl⟩
    have R1 : RD (p_a M 1000 10 t (nI (h_n H + 1))) b n t (z_p s) s := R0.ofC (kC.wd (fun a j z => ⟨z.1, by have := z.2; omega⟩))
    have f9 : q_a (p_a M 1000 10 t (nI (h_n H + 1))) 1000 9 t = nI (c_w (mkC H s) (h_n H)) := (kC.a (fun z => by have := z.2; omega)).trans R.2.2.1
    have hW : c_w (mkC H s) (h_n H) ≤ 13 := Nat.le_trans (c_w_le _ _) (by omega)
    have mv := R.2.2.2.2
    have g := kk_nx (b := b) (n := n) (s := s) (by omega)
    have pass : ∀ {X : Option (Int32 × QM)} {r : Except Nat (HD × PZ)}, qW X (PCl b n t M r) → qW (q_b X fun v N => if q_z v then some (v, N) else none) (PCl b n t M r) := fun {X} {r} h => by
      obtain ⟨v, N2, e, k, g⟩ := h
      rw [e, q_b_s]
      cases r with
      | error f =>
        obtain ⟨rfl, g⟩ := g
        rw [if_pos (by decide)]
        exact qW_s ⟨k, rfl, g⟩
      | ok q =>
        obtain ⟨rfl, g⟩ := g
        rw [if_pos (by decide)]
        exact qW_s ⟨k, rfl, g⟩
    have fromW : ∀ {X : Option (Int32 × QM)} {P : Except Nat HZ} {w k v : Nat}, w < 3 → (∀ q, P = .ok q → q.1 = h_c H (z_z s) w k v) → qW X (PWr b n t (c_w (mkC H s) (h_n H)) H (p_a M 1000 10 t (nI (h_n H + 1))) (x_g P (p_ts b n))) → qW X (PCl b n t M (x_g P (p_ts b n))) := fun {X} {P} {w} {k} {v} hw hq h => by
      obtain ⟨u, N2, e, k2, g⟩ := h
      refine ⟨u, N2, e, (FC.of10 _).tr (FC.ofK k2), ?_⟩
      cases hx : x_g P (p_ts b n) with
      | error f =>
        rw [hx] at g
        exact g
      | ok y =>
        rw [hx] at g
        obtain ⟨q, q1, q2⟩ := x_g_ok hx
        obtain ⟨s2, q3, q4⟩ := x_g_ok q2
        have ey : y.1 = h_c H (z_z s) w k v := by
          rw [← hq q q1]
          cases q4
          rfl
        exact ⟨g.1, R.conv1 hw ey k2 g.2.1 g.2.2.1 g.2.2.2⟩
    have fromM : ∀ {w lo hi : Nat} {y1 : Int32}, (w = 3 ∨ w = 4 ∨ w = 5) → p_kd b n s = w → lo < 100 → hi < 100 → y1 < y1 + 1 ∨ True → (hs H w = false → q_a M 1000 (8 + w) t = -nI 1) → (hs H w = true → ∃ v, v < 100 ∧ q_a M 1000 (8 + w) t = nI v) → qW (fX12_sets (p_a M 1000 10 t (nI (h_n H + 1))) (8 + w) (nI lo) (nI hi) (nI (z_p s))) (PCl b n t M (x_g (if 3 ≤ p_kd b n s ∧ hs H (p_kd b n s) = true then .error (fl 4 (z_p s)) else p_me b n H w lo hi (p_nx b n s)) (p_ts b n))) := fun {w} {lo} {hi} {y1} hw ew hlo hhi _ h1 h2 => by
      have q10 : q_a (p_a M 1000 10 t (nI (h_n H + 1))) 1000 (8 + w) t = q_a M 1000 (8 + w) t := kC.a (fun z => by have := z.2; omega)
      cases ch : hs H w with
      | true =>
        obtain ⟨v, hv, e⟩ := h2 ch
        rw [if_pos (show 3 ≤ p_kd b n s ∧ hs H (p_kd b n s) = true from ⟨by omega, by rw [ew]; exact ch⟩), sX12_setsF R1 ok ht (q10.trans e) hv]
        refine qW_s ⟨(FC.of10 _).tr (FC.of15 _), rfl, ?_⟩
        simp only [y_ii, y_ia, y_il, y_ir, y_ai, y_aa, y_al, y_ar, y_li, y_la, y_ll, y_lr, y_ri, y_ra, y_rl, y_rr, and_true, true_and, and_false, false_and, and_self, if_true, if_false, Nat.reduceEqDiff, reduceCtorEq, or_false, false_or, or_true, true_or]
      | false =>
        rw [if_neg (show ¬ (3 ≤ p_kd b n s ∧ hs H (p_kd b n s) = true) from fun z => by have := z.2; rw [ew, ch] at this; cases this)]
        obtain ⟨v, N2, a1, k2, a2, a3⟩ := sX12_sets (p := z_p s) R1 ok ht (by omega) (j := 8 + w) (by omega) hlo hhi (q10.trans (h1 ch))
        refine ⟨v, N2, a1, (FC.of10 _).tr (FC.ofJ k2 (by omega) a2), ?_⟩
        unfold p_me
        cases hv : p_num b n lo hi (p_nx b n s) with
        | error f =>
          rw [hv] at a3
          exact a3
        | ok s2 =>
          rw [hv] at a3
          exact ⟨a3.1, R.conv2 hw rfl k2 a3.2.1 a3.2.2⟩
    have wd : ∀ w, w < 28 → ∀ x : Int64, x = lN (pkW (WDS.getD w [])) → fX12_isWord (p_a M 1000 10 t (nI (h_n H + 1))) x = some (nI (if p_kd b n s = w then 1 else 0), p_a M 1000 10 t (nI (h_n H + 1))) := fun w hw x hx => sX12_isWord2 R1 ok hw hx
    unfold p_h2
    rw [wd 0 (by decide) _ (show (126909462046836 : Int64) = _ by decide +kernel), q_b_s]
    by_cases c0 : p_kd b n s = 0
    · rw [if_pos c0, if_neg (by decide), if_neg (show ¬ (3 ≤ p_kd b n s ∧ hs H (p_kd b n s) = true) by omega), if_pos c0]
      exact pass (fromW (w := 0) (by decide) (fun q hq => by
        obtain ⟨q1, q2, q3⟩ := q
        exact (p_wt_in hq).2.2.2.2.1) (sX12_kinded R1 ok ht hz (W := c_w (mkC H s) (h_n H)) (w := 0) (Or.inl ⟨rfl, rfl, rfl, rfl⟩) c0 f9 hW))
    rw [if_neg c0, if_pos (by decide), if_neg c0, wd 1 (by decide) _ (show (1650549611 : Int64) = _ by decide +kernel), q_b_s]
    by_cases c1 : p_kd b n s = 1
    · rw [if_pos c1, if_neg (by decide), if_neg (show ¬ (3 ≤ p_kd b n s ∧ hs H (p_kd b n s) = true) by omega), if_pos c1]
      exact pass (fromW (w := 1) (by decide) (fun q hq => by
        obtain ⟨q1, q2, q3⟩ := q
        exact (p_wt_in hq).2.2.2.2.1) (sX12_kinded R1 ok ht hz (W := c_w (mkC H s) (h_n H)) (w := 1) (Or.inr ⟨rfl, rfl, rfl, rfl⟩) c1 f9 hW))
    rw [if_neg c1, if_pos (by decide), if_neg c1, wd 3 (by decide) _ (show (6386539 : Int64) = _ by decide +kernel), q_b_s]
    by_cases c3 : p_kd b n s = 3
    · rw [if_pos c3, if_neg (by decide), if_neg (show ¬ p_kd b n s = 2 by omega), if_pos c3]
      exact pass (fromM (w := 3) (lo := 0) (hi := 15) (y1 := 0) (by decide) c3 (by decide) (by decide) (Or.inr trivial) (fun h => by rw [show 8 + 3 = 11 from rfl, mv.1, h]; rfl) (fun h => ⟨H.1.1, by omega, by rw [show 8 + 3 = 11 from rfl, mv.1, h]; rfl⟩))
    rw [if_neg c3, if_pos (by decide), wd 4 (by decide) _ (show (448546566771 : Int64) = _ by decide +kernel), q_b_s]
    by_cases c4 : p_kd b n s = 4
    · rw [if_pos c4, if_neg (by decide), if_neg (show ¬ p_kd b n s = 2 by omega), if_neg c3, if_pos c4]
      exact pass (fromM (w := 4) (lo := 1) (hi := 8) (y1 := 0) (by decide) c4 (by decide) (by decide) (Or.inr trivial) (fun h => by rw [show 8 + 4 = 12 from rfl, mv.2.1, h]; rfl) (fun h => ⟨H.1.2.1, by omega, by rw [show 8 + 4 = 12 from rfl, mv.2.1, h]; rfl⟩))
    rw [if_neg c4, if_pos (by decide), wd 5 (by decide) _ (show (1836413812 : Int64) = _ by decide +kernel), q_b_s]
    by_cases c5 : p_kd b n s = 5
    · rw [if_pos c5, if_neg (by decide), if_neg (show ¬ p_kd b n s = 2 by omega), if_neg c3, if_neg c4]
      exact pass (fromM (w := 5) (lo := 0) (hi := 15) (y1 := 0) (by decide) c5 (by decide) (by decide) (Or.inr trivial) (fun h => by rw [show 8 + 5 = 13 from rfl, mv.2.2, h]; rfl) (fun h => ⟨H.1.2.2, by omega, by rw [show 8 + 5 = 13 from rfl, mv.2.2, h]; rfl⟩))
    have c2 : p_kd b n s = 2 := by omega
    obtain ⟨N3, b1, k3, r3, R3⟩ := sX12_passWord R1 ok (by omega)
    have h9 : q_a N3 1000 9 t = nI (c_w (mkC H s) (h_n H)) := (k3.a (not_SN (by decide))).trans f9
    rw [if_neg c5, if_pos (by decide), if_neg (show ¬ (3 ≤ p_kd b n s ∧ hs H (p_kd b n s) = true) by omega), if_pos c2, b1, q_bv_s]
    have hz1 : BZ n 0 (p_nx b n s) := (hz.nx (b := b) (k := 1) g.1 g.2).le (Nat.zero_le _)
    obtain ⟨v, N4, d1, d2⟩ := sX12_weighed (H := H) (w := 2) (k := 0) (v := 0) R3 ok ht hz1 h9 hW true
    exact pass (fromW (w := 2) (k := 0) (v := 0) (P := .ok (h_c H (z_z (p_nx b n s)) 2 0 0, true, p_nx b n s)) (by decide) (fun q hq => by cases hq; rfl) ⟨v, N4, d1, PWr.tr (FK.ofN k3) d2⟩)
theorem sX12_clauseHere (R : R2H M b n t r H s) (ok : tp_ok n b) (ht : t < 6) (hz : BZ n 0 s) (h14 : h_n H ≤ 14) (hm : H.1.1 < 16 ∧ H.1.2.1 < 9 ∧ H.1.2.2 < 16) : qW (fX12_clauseHere M) (PCl b n t M (x_g (p_hd b n H s) (p_ts b n))) := by
  have hn := ok.1
  obtain ⟨N, e, R2, k⟩ := sX12_see R.1 ok
  have hr := R2.2.2.2.1
  have RH := R.ofN k R2
  have kk : FC t M N := FC.ofN k
  have wd : ∀ w, w < 28 → ∀ x : Int64, x = lN (pkW (WDS.getD w [])) → fX12_isWord N x = some (nI (if p_kd b n s = w then 1 else 0), N) := fun w hw x hx => sX12_isWord2 R2 ok hw hx
  have main : p_kd b n s < 6 → qW (fX12_clauseHere_b70 N (nI (z_p s))) (PCl b n t M (x_g (p_hd b n H s) (p_ts b n))) := fun h6 => by
    obtain ⟨v, N2, a1, a2, a3⟩ := sX12_clauseHere_b70 RH ok ht hz h14 hm h6
    exact ⟨v, N2, a1, kk.tr a2, a3⟩
  unfold fX12_clauseHere
  rw [e, q_b_s, R2.2.2.1, wd 0 (by decide) _ (show (126909462046836 : Int64) = _ by decide +kernel), q_b_s]
  by_cases c0 : p_kd b n s = 0
  · rw [if_pos c0, if_pos (by decide)]
    exact main (by omega)
  rw [if_neg c0, if_neg (by decide), wd 1 (by decide) _ (show (1650549611 : Int64) = _ by decide +kernel), q_b_s]
  by_cases c1 : p_kd b n s = 1
  · rw [if_pos c1, if_pos (by decide)]
    exact main (by omega)
  rw [if_neg c1, if_neg (by decide), wd 2 (by decide) _ (show (125779836236645 : Int64) = _ by decide +kernel), q_b_s]
  by_cases c2 : p_kd b n s = 2
  · rw [if_pos c2, if_pos (by decide)]
    exact main (by omega)
  rw [if_neg c2, if_neg (by decide), wd 3 (by decide) _ (show (6386539 : Int64) = _ by decide +kernel), q_b_s]
  by_cases c3 : p_kd b n s = 3
  · rw [if_pos c3, if_pos (by decide)]
    exact main (by omega)
  rw [if_neg c3, if_neg (by decide), wd 4 (by decide) _ (show (448546566771 : Int64) = _ by decide +kernel), q_b_s]
  by_cases c4 : p_kd b n s = 4
  · rw [if_pos c4, if_pos (by decide)]
    exact main (by omega)
  rw [if_neg c4, if_neg (by decide), wd 5 (by decide) _ (show (1836413812 : Int64) = _ by decide +kernel), q_b_s]
  by_cases c5 : p_kd b n s = 5
  · rw [if_pos c5, if_neg (by decide)]
    exact main (by omega)
  rw [if_neg c5, if_pos (by decide)]
  unfold fX12_clauseHere_b75 p_hd
  rw [if_neg (by decide), if_neg (show ¬ p_kd b n s < 6 by omega), show fX12_fails N (0 : Int32) (nI (z_p s)) = _ from sX12_fails R2.2.2.2.2.2.1 (k := 0) (by decide) (by omega), q_b_s, if_pos (by decide)]
  refine qW_s ⟨kk.tr (FC.of15 _), rfl, ?_⟩
  simp only [y_ii, y_ia, y_il, y_ir, y_ai, y_aa, y_al, y_ar, y_li, y_la, y_ll, y_lr, y_ri, y_ra, y_rl, y_rr, and_true, true_and, and_false, false_and, and_self, if_true, if_false, Nat.reduceEqDiff, reduceCtorEq, or_false, false_or, or_true, true_or]
end CODE2
