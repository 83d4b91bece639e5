/-! the reference's clauses: rows weighed, measures -/
def p_ts (b : Nat → Nat) (n : Nat) (q : HZ) : Except Nat (HD × PZ) := x_g (if q.2.1 = true then p_tst b n (p_fact b n 14 0) q.2.2 else .ok q.2.2) (fun s2 => .ok (q.1, s2))
def SCc (a j : Nat) : Prop := a = 1000 ∧ 8 ≤ j ∧ j ≤ 13
def SWc (a j : Nat) : Prop := a = 1000 ∧ (j = 6 ∨ j = 7 ∨ j = 8 ∨ j = 9 ∨ j = 14 ∨ j = 15 ∨ j = 16 ∨ j = 18 ∨ j = 19 ∨ j = 20 ∨ j = 21)
/-- but for text t's rows from W on all stays -/
def FK (t W : Nat) (M N : QM) : Prop := kp SWc M N ∧ (∀ c, c < 400 * t → q_a N 1000 6 c = q_a M 1000 6 c) ∧ (∀ c, c < 70 * t + 5 * W → q_a N 1000 8 c = q_a M 1000 8 c) ∧ ∀ c, c ≠ t → q_a N 1000 9 c = q_a M 1000 9 c
theorem FK.tr {t W : Nat} {M N K : QM} (h : FK t W M N) (g : FK t W N K) : FK t W M K := ⟨h.1.tr g.1, fun c hc => (g.2.1 c hc).trans (h.2.1 c hc), fun c hc => (g.2.2.1 c hc).trans (h.2.2.1 c hc), fun c hc => (g.2.2.2 c hc).trans (h.2.2.2 c hc)⟩
theorem FK.of {t W : Nat} {M N : QM} (k : FQ SWw t M N) : FK t W M N := ⟨k.1.wd (fun a j z => ⟨z.1, by have := z.2; omega⟩), k.2, fun c _ => k.1.a (fun z => by have := z.2; omega), fun c _ => k.1.a (fun z => by have := z.2; omega)⟩
/-- a row of text t -/
def Row (N : QM) (t W : Nat) (cl : CL) (z : Nat) : Prop := q_a N 1000 8 (70 * t + 5 * W) = nI cl.1 ∧ q_a N 1000 8 (70 * t + 5 * W + 1) = nI cl.2.1 ∧ q_a N 1000 8 (70 * t + 5 * W + 2) = nI cl.2.2.1 ∧ q_a N 1000 8 (70 * t + 5 * W + 3) = (if cl.2.2.2.1 = z then -1 else nI cl.2.2.2.1) ∧ q_a N 1000 8 (70 * t + 5 * W + 4) = nI z
def PWr (b : Nat → Nat) (n t W : Nat) (H : HD) (M : QM) (r : Except Nat (HD × PZ)) (v : Int32) (N : QM) : Prop := FK t W M N ∧ match r with
  | .ok y => v = nI 1 ∧ (∃ r, RD N b n t r y.2) ∧ q_a N 1000 9 t = nI (W + 1) ∧ Row N t W (y.1.2.2 (h_n H)) (z_z y.2)
  | .error e => v = nI 0 ∧ q_i N 1000 15 = nI e
section CLAUSE
variable {M N : QM} {b : Nat → Nat} {n t r : Nat} {s : PZ} {H : HD}
theorem RD.ofC (R : RD M b n t r s) (k : kp SCc M N) : RD N b n t r s := by
  obtain ⟨h1, h2, h3, h4, h5, h6, h7, h8, h9⟩ := R
  have nS : ∀ {j : Nat}, j < 8 ∨ 13 < j → ¬ SCc 1000 j := fun hj z => by have := z.2; omega
  exact ⟨h1.keptN k (nS (by decide)) (nS (by decide)), (k.i (nS (by decide))).trans h2, (k.i (nS (by decide))).trans h3, h4, h5, (k.i (nS (by decide))).trans h6, (k.i (nS (by decide))).trans h7, (k.a (nS (by decide))).trans h8, fun j hj => (k.a (nS (by decide))).trans (h9 j hj)⟩
theorem sX12_weighed_b90 (R : RD M b n t r s) (ht : t < 6) {W : Nat} (e9 : q_a M 1000 9 t = nI W) (hW : W ≤ 13) : ∃ N, fX12_weighed_b90 M (nI (70 * t + 5 * W)) = some (nI 1, N) ∧ RD N b n t r s ∧ q_a N 1000 9 t = nI (W + 1) ∧ q_a N 1000 8 (70 * t + 5 * W + 4) = nI (z_z s) ∧ (∀ c, c ≠ 70 * t + 5 * W + 4 → q_a N 1000 8 c = q_a M 1000 8 c) ∧ (∀ c, c ≠ t → q_a N 1000 9 c = q_a M 1000 9 c) ∧ kp (fun a j => a = 1000 ∧ (j = 8 ∨ j = 9)) M N := by
  have k : kp (fun a j => a = 1000 ∧ (j = 8 ∨ j = 9)) M (p_a (p_a M 1000 8 (70 * t + 5 * W + 4) (nI (z_z s))) 1000 9 t (nI (W + 1))) := (kp_a ⟨rfl, Or.inl rfl⟩).tr (kp_a ⟨rfl, Or.inr rfl⟩)
  refine ⟨p_a (p_a M 1000 8 (70 * t + 5 * W + 4) (nI (z_z s))) 1000 9 t (nI (W + 1)), ?_, R.ofC (k.wd (fun a j z => ⟨z.1, by have := z.2; omega⟩)), ?_, ?_, fun c hc => ?_, fun c hc => ?_, k⟩
  · have e17 := R.2.1
    have e7 := R.2.2.2.2.2.2.2.1
    unfold fX12_weighed_b90
    simp (disch := omega) only [y_lit, y_lt_T, y_lt_F, y_le_T, y_le_F, y_eq_T, y_eq_F, y_in_T, y_cl, ↓reduceIte, y_bs, y_bvs, y_os, y_on, y_t, ne_eq, not_true_eq_false, not_false_eq_true, pk_mul, nI_add, y_ii, y_ia, y_il, y_ir, y_ai, y_aa, y_al, y_ar, y_li, y_la, y_ll, y_lr, y_ri, y_ra, y_rl, y_rr, and_true, true_and, and_false, false_and, and_self, if_true, if_false, Nat.reduceEqDiff, reduceCtorEq, or_false, false_or, or_true, true_or, e17, e7, e9]
  · simp only [y_ii, y_ia, y_il, y_ir, y_ai, y_aa, y_al, y_ar, y_li, y_la, y_ll, y_lr, y_ri, y_ra, y_rl, y_rr, and_true, true_and, and_false, false_and, and_self, if_true, if_false, Nat.reduceEqDiff, reduceCtorEq, or_false, false_or, or_true, true_or]
  · simp only [y_ii, y_ia, y_il, y_ir, y_ai, y_aa, y_al, y_ar, y_li, y_la, y_ll, y_lr, y_ri, y_ra, y_rl, y_rr, and_true, true_and, and_false, false_and, and_self, if_true, if_false, Nat.reduceEqDiff, reduceCtorEq, or_false, false_or, or_true, true_or]
  · simp only [y_ii, y_ia, y_il, y_ir, y_ai, y_aa, y_al, y_ar, y_li, y_la, y_ll, y_lr, y_ri, y_ra, y_rl, y_rr, and_true, true_and, and_false, false_and, and_self, if_true, if_false, Nat.reduceEqDiff, reduceCtorEq, or_false, false_or, or_true, true_or, hc]
  · simp only [y_ii, y_ia, y_il, y_ir, y_ai, y_aa, y_al, y_ar, y_li, y_la, y_ll, y_lr, y_ri, y_ra, y_rl, y_rr, and_true, true_and, and_false, false_and, and_self, if_true, if_false, Nat.reduceEqDiff, reduceCtorEq, or_false, false_or, or_true, true_or, hc]
theorem sX12_weighed (R : RD M b n t r s) (ok : tp_ok n b) (ht : t < 6) (hz : BZ n 0 s) {W w k v : Nat} (e9 : q_a M 1000 9 t = nI W) (hW : W ≤ 13) (T : Bool) : qW (fX12_weighed M (nI w) (nI k) (nI v) (nI (if T then 1 else 0))) (PWr b n t W H M (p_ts b n (h_c H (z_z s) w k v, T, s))) := by
  have e17 := R.2.1
  have e7 := R.2.2.2.2.2.2.2.1
  have main : ∀ (u : Int32) (M4 : QM), p_a (p_a (p_a (p_a M 1000 8 (70 * t + 5 * W) (nI w)) 1000 8 (70 * t + 5 * W + 1) (nI k)) 1000 8 (70 * t + 5 * W + 2) (nI v)) 1000 8 (70 * t + 5 * W + 3) u = M4 → RD M4 b n t r s ∧ FK t W M M4 ∧ q_a M4 1000 9 t = nI W ∧ q_a M4 1000 8 (70 * t + 5 * W) = nI w ∧ q_a M4 1000 8 (70 * t + 5 * W + 1) = nI k ∧ q_a M4 1000 8 (70 * t + 5 * W + 2) = nI v ∧ q_a M4 1000 8 (70 * t + 5 * W + 3) = u := fun u M4 h4 => by
    have k4 : kp (fun a j => a = 1000 ∧ j = 8) M M4 := by
      rw [← h4]
      exact (((kp_a ⟨rfl, rfl⟩).tr (kp_a ⟨rfl, rfl⟩)).tr (kp_a ⟨rfl, rfl⟩)).tr (kp_a ⟨rfl, rfl⟩)
    refine ⟨R.ofC (k4.wd (fun a j z => ⟨z.1, by have := z.2; omega⟩)), ⟨k4.wd (fun a j z => ⟨z.1, by have := z.2; omega⟩), fun c _ => k4.a (fun z => by have := z.2; omega), fun c hc => ?_, fun c _ => k4.a (fun z => by have := z.2; omega)⟩, (k4.a (fun z => by have := z.2; omega)).trans e9, ?_, ?_, ?_, ?_⟩
    · rw [← h4]
      simp only [y_ii, y_ia, y_il, y_ir, y_ai, y_aa, y_al, y_ar, y_li, y_la, y_ll, y_lr, y_ri, y_ra, y_rl, y_rr, and_true, true_and, and_false, false_and, and_self, if_true, if_false, Nat.reduceEqDiff, reduceCtorEq, or_false, false_or, or_true, true_or, show ¬ c = 70 * t + 5 * W by omega, show ¬ c = 70 * t + 5 * W + 1 by omega, show ¬ c = 70 * t + 5 * W + 2 by omega, show ¬ c = 70 * t + 5 * W + 3 by omega]
    · rw [← h4]
      simp only [y_ii, y_ia, y_il, y_ir, y_ai, y_aa, y_al, y_ar, y_li, y_la, y_ll, y_lr, y_ri, y_ra, y_rl, y_rr, and_true, true_and, and_false, false_and, and_self, if_true, if_false, Nat.reduceEqDiff, reduceCtorEq, or_false, false_or, or_true, true_or, show ¬ 70 * t + 5 * W = 70 * t + 5 * W + 1 by omega, show ¬ 70 * t + 5 * W = 70 * t + 5 * W + 2 by omega, show ¬ 70 * t + 5 * W = 70 * t + 5 * W + 3 by omega]
    · rw [← h4]
      simp only [y_ii, y_ia, y_il, y_ir, y_ai, y_aa, y_al, y_ar, y_li, y_la, y_ll, y_lr, y_ri, y_ra, y_rl, y_rr, and_true, true_and, and_false, false_and, and_self, if_true, if_false, Nat.reduceEqDiff, reduceCtorEq, or_false, false_or, or_true, true_or, show ¬ 70 * t + 5 * W + 1 = 70 * t + 5 * W + 2 by omega, show ¬ 70 * t + 5 * W + 1 = 70 * t + 5 * W + 3 by omega]
    · rw [← h4]
      simp only [y_ii, y_ia, y_il, y_ir, y_ai, y_aa, y_al, y_ar, y_li, y_la, y_ll, y_lr, y_ri, y_ra, y_rl, y_rr, and_true, true_and, and_false, false_and, and_self, if_true, if_false, Nat.reduceEqDiff, reduceCtorEq, or_false, false_or, or_true, true_or, show ¬ 70 * t + 5 * W + 2 = 70 * t + 5 * W + 3 by omega]
    · rw [← h4]
      simp only [y_ii, y_ia, y_il, y_ir, y_ai, y_aa, y_al, y_ar, y_li, y_la, y_ll, y_lr, y_ri, y_ra, y_rl, y_rr, and_true, true_and, and_false, false_and, and_self, if_true, if_false, Nat.reduceEqDiff, reduceCtorEq, or_false, false_or, or_true, true_or]
  have last : ∀ {N : QM} {r2 : Nat} {s2 : PZ} {u : Int32}, RD N b n t r2 s2 → FK t W M N → q_a N 1000 9 t = nI W → q_a N 1000 8 (70 * t + 5 * W) = nI w → q_a N 1000 8 (70 * t + 5 * W + 1) = nI k → q_a N 1000 8 (70 * t + 5 * W + 2) = nI v → q_a N 1000 8 (70 * t + 5 * W + 3) = u → u = (if z_z s = z_z s2 then -1 else nI (z_z s)) → qW (fX12_weighed_b90 N (nI (70 * t + 5 * W))) (PWr b n t W H M (.ok (h_c H (z_z s) w k v, s2))) := fun {N} {r2} {s2} {u} R2 k2 f9 f0 f1 f2 f3 hu => by
    obtain ⟨N3, a1, a2, a3, a4, a5, a6, k3⟩ := sX12_weighed_b90 R2 ht f9 hW
    have ecl : (h_c H (z_z s) w k v).2.2 (h_n H) = (w, k, v, z_z s, z_z s) := u_f_e _ _ _
    refine ⟨nI 1, N3, a1, k2.tr ⟨k3.wd (fun a j z => ⟨z.1, by have := z.2; omega⟩), fun c _ => k3.a (fun z => by have := z.2; omega), fun c hc => a5 c (by omega), a6⟩, rfl, ⟨r2, a2⟩, a3, ?_⟩
    show Row N3 t W ((h_c H (z_z s) w k v).2.2 (h_n H)) (z_z s2)
    rw [ecl]
    refine ⟨(a5 _ (by omega)).trans f0, (a5 _ (by omega)).trans f1, (a5 _ (by omega)).trans f2, ?_, a4⟩
    rw [a5 _ (by omega), f3, hu]
  unfold fX12_weighed p_ts
  cases T with
  | false =>
    obtain ⟨m1, m2, m3, m4, m5, m6, m7⟩ := main (-1) _ rfl
    simp (disch := omega) only [y_lit, y_lt_T, y_lt_F, y_le_T, y_le_F, y_eq_T, y_eq_F, y_in_T, y_cl, ↓reduceIte, y_bs, y_bvs, y_os, y_on, y_t, ne_eq, not_true_eq_false, not_false_eq_true, pk_mul, nI_add, y_ii, y_ia, y_il, y_ir, y_ai, y_aa, y_al, y_ar, y_li, y_la, y_ll, y_lr, y_ri, y_ra, y_rl, y_rr, and_true, true_and, and_false, false_and, and_self, if_true, if_false, Nat.reduceEqDiff, reduceCtorEq, or_false, false_or, or_true, true_or, e17, e7, e9]
    unfold fX12_weighed_b75
    simp (disch := omega) only [y_lit, y_lt_T, y_lt_F, y_le_T, y_le_F, y_eq_T, y_eq_F, y_in_T, y_cl, ↓reduceIte, y_bs, y_bvs, y_os, y_on, y_t, ne_eq, not_true_eq_false, not_false_eq_true, pk_mul, nI_add, y_ii, y_ia, y_il, y_ir, y_ai, y_aa, y_al, y_ar, y_li, y_la, y_ll, y_lr, y_ri, y_ra, y_rl, y_rr, and_true, true_and, and_false, false_and, and_self, if_true, if_false, Nat.reduceEqDiff, reduceCtorEq, or_false, false_or, or_true, true_or, e17, e7, e9]
    exact last m1 m2 m3 m4 m5 m6 m7 (if_pos rfl).symm
  | true =>
    obtain ⟨m1, m2, m3, m4, m5, m6, m7⟩ := main (nI (z_z s)) _ rfl
    simp (disch := omega) only [y_lit, y_lt_T, y_lt_F, y_le_T, y_le_F, y_eq_T, y_eq_F, y_in_T, y_cl, ↓reduceIte, y_bs, y_bvs, y_os, y_on, y_t, ne_eq, not_true_eq_false, not_false_eq_true, pk_mul, nI_add, y_ii, y_ia, y_il, y_ir, y_ai, y_aa, y_al, y_ar, y_li, y_la, y_ll, y_lr, y_ri, y_ra, y_rl, y_rr, and_true, true_and, and_false, false_and, and_self, if_true, if_false, Nat.reduceEqDiff, reduceCtorEq, or_false, false_or, or_true, true_or, e17, e7, e9]
    unfold fX12_weighed_b75
    simp (disch := omega) only [y_lit, y_lt_T, y_lt_F, y_le_T, y_le_F, y_eq_T, y_eq_F, y_in_T, y_cl, ↓reduceIte, y_bs, y_bvs, y_os, y_on, y_t, ne_eq, not_true_eq_false, not_false_eq_true, pk_mul, nI_add, y_ii, y_ia, y_il, y_ir, y_ai, y_aa, y_al, y_ar, y_li, y_la, y_ll, y_lr, y_ri, y_ra, y_rl, y_rr, and_true, true_and, and_false, false_and, and_self, if_true, if_false, Nat.reduceEqDiff, reduceCtorEq, or_false, false_or, or_true, true_or, e17, e7, e9]
    generalize p_a (p_a (p_a (p_a M 1000 8 (70 * t + 5 * W) (nI w)) 1000 8 (70 * t + 5 * W + 1) (nI k)) 1000 8 (70 * t + 5 * W + 2) (nI v)) 1000 8 (70 * t + 5 * W + 3) (nI (z_z s)) = M4 at *
    obtain ⟨v5, N5, b1, k5, b2⟩ := sX12_test m1 ok ht hz
    rw [b1, q_b_s]
    have nS : ∀ {j : Nat}, j = 8 ∨ j = 9 → ¬ SWw 1000 j := fun h z => by have := z.2; omega
    cases hv : p_tst b n (p_fact b n 14 0) s with
    | error f =>
      rw [hv] at b2
      obtain ⟨rfl, b2⟩ := b2
      rw [if_neg (by decide)]
      exact qW_s ⟨m2.tr (FK.of k5), rfl, b2⟩
    | ok s2 =>
      rw [hv] at b2
      obtain ⟨rfl, r2, R2⟩ := b2
      have T := (p_jn_ty (b := b) (Or.inl ⟨rfl, rfl⟩) (p_jn_ty (b := b) (Or.inr ⟨rfl, rfl⟩) (p_fact_ty 14 0)) s s2 [] hv (Nat.zero_le _)).1
      have ne : ¬ z_z s = z_z s2 := fun z => by
        have t9 := T.2.2.2.2.2.2.2.2
        rw [z, Nat.sub_self] at t9
        cases t9
      rw [if_pos (by decide)]
      exact last R2 (m2.tr (FK.of k5)) ((k5.1.a (nS (Or.inr rfl))).trans m3) ((k5.1.a (nS (Or.inl rfl))).trans m4) ((k5.1.a (nS (Or.inl rfl))).trans m5) ((k5.1.a (nS (Or.inl rfl))).trans m6) ((k5.1.a (nS (Or.inl rfl))).trans m7) (if_neg ne).symm
theorem PWr.tr {t W : Nat} {M1 : QM} {x : Except Nat (HD × PZ)} {v : Int32} (k : FK t W M M1) (h : PWr b n t W H M1 x v N) : PWr b n t W H M x v N := ⟨k.tr h.1, h.2⟩
theorem FK.ofN {W : Nat} (k : kp SN M N) : FK t W M N := FK.of (FQ.of k SN_SWw (not_SN (by decide)))
theorem FK.ofU {W : Nat} (k : FQ SU t M N) : FK t W M N := FK.of (k.wd (fun a j z => SVv_SWw a j (SU_SVv a j z)))
theorem sX12_kinded_b58 (R : RD M b n t r s) (ok : tp_ok n b) (ht : t < 6) (hz : BZ n 0 s) {W w k hi : Nat} (hhi : hi < 100) (e9 : q_a M 1000 9 t = nI W) (hW : W ≤ 13) : qW (fX12_kinded_b58 M (nI w) (nI k) (nI hi) (nI 0)) (PWr b n t W H M (x_g (x_g (p_num b n 0 hi s) (fun s2 => .ok (p_if b n (h_c H (z_z s) w k (nv b n (z_p s))) s2))) (p_ts b n))) := by
  obtain ⟨v, N1, a1, ⟨k1, a2⟩, a3⟩ := sX12_number R ok (lo := 0) (hi := hi) (by decide) (by omega)
  unfold fX12_kinded_b58
  rw [a1, q_b_s]
  cases hv : p_num b n 0 hi s with
  | error f =>
    rw [hv] at a2
    obtain ⟨rfl, a2⟩ := a2
    rw [if_neg (by decide)]
    exact qW_s ⟨FK.ofU k1, rfl, a2⟩
  | ok s2 =>
    rw [hv] at a2
    obtain ⟨rfl, r2, R2⟩ := a2
    obtain ⟨c30, es, _⟩ := p_num_z hv
    have g := kk_nx (b := b) (n := n) (s := s) (by omega)
    have hz2 : BZ n 0 s2 := by
      rw [es]
      exact (hz.nx (b := b) (k := 1) g.1 g.2).le (Nat.zero_le _)
    obtain ⟨N3, b1, ⟨r3, R3⟩, k3⟩ := sX12_takesWord R2 ok (w := 14) (by decide) (show (26982 : Int64) = lN (pkW (WDS.getD 14 [])) by decide +kernel)
    have kk : FK t W M N3 := (FK.ofU k1).tr (FK.ofN k3)
    have f9 : q_a N3 1000 9 t = nI W := (k3.a (not_SN (by decide))).trans ((k1.1.a (fun z => by have := z.2; omega)).trans e9)
    rw [if_pos (by decide), b1, q_b_s, a3 (by decide)]
    show qW _ (PWr b n t W H M (p_ts b n (p_if b n (h_c H (z_z s) w k (nv b n (z_p s))) s2)))
    have ez : z_z s = z_z s2 := by rw [es]; rfl
    have pass : ∀ {X : Option (Int32 × QM)} {x : Except Nat (HD × PZ)}, qW X (PWr b n t W H N3 x) → qW (q_b X fun v N => if q_z v then some (v, N) else none) (PWr b n t W H M x) := fun {X} {x} h => by
      obtain ⟨v, N2, e, k, g⟩ := h
      rw [e, q_b_s]
      cases x with
      | error f =>
        obtain ⟨rfl, g⟩ := g
        rw [if_pos (by decide)]
        exact qW_s ⟨kk.tr k, rfl, g⟩
      | ok q =>
        obtain ⟨rfl, g⟩ := g
        rw [if_pos (by decide)]
        exact qW_s ⟨kk.tr k, rfl, g⟩
    unfold p_if
    by_cases c : p_kd b n s2 = 14
    · have g2 := kk_nx (b := b) (n := n) (s := s2) (by omega)
      rw [if_pos c] at R3 ⊢
      rw [if_pos c, ez, show z_z s2 = z_z (p_nx b n s2) from rfl]
      exact pass (sX12_weighed R3 ok ht ((hz2.nx (b := b) (k := 1) g2.1 g2.2).le (Nat.zero_le _)) f9 hW true)
    · rw [if_neg c] at R3 ⊢
      rw [if_neg c, ez]
      exact pass (sX12_weighed R3 ok ht hz2 f9 hW false)
theorem sX12_kinded (R : RD M b n t (z_p s) s) (ok : tp_ok n b) (ht : t < 6) (hz : BZ n 0 s) {W w lo up hi : Nat} (hw : w = 0 ∧ lo = 6 ∧ up = 10 ∧ hi = 9 ∨ w = 1 ∧ lo = 10 ∧ up = 14 ∧ hi = 15) (hk : p_kd b n s = w) (e9 : q_a M 1000 9 t = nI W) (hW : W ≤ 13) : qW (fX12_kinded M (nI w)) (PWr b n t W H M (x_g (p_wt b n H w lo up hi (p_nx b n s)) (p_ts b n))) := by
  have hn := ok.1
  have g := kk_nx (b := b) (n := n) (s := s) (by omega)
  have hz1 : BZ n 0 (p_nx b n s) := (hz.nx (b := b) (k := 1) g.1 g.2).le (Nat.zero_le _)
  obtain ⟨N1, a1, k1, r1, R1'⟩ := sX12_passWord R ok (by omega)
  obtain ⟨N2, a2, R2, k2⟩ := sX12_see R1' ok
  have kk : FK t W M N2 := (FK.ofN k1).tr (FK.ofN k2)
  have e14 := R2.2.2.1
  have f9 : q_a N2 1000 9 t = nI W := (k2.a (not_SN (by decide))).trans ((k1.a (not_SN (by decide))).trans e9)
  have hp1 : z_p (p_nx b n s) ≤ n := g.2
  have b29 : qW (fX12_kinded_b29 N2 (nI w) (nI (z_p (p_nx b n s))) (if lo ≤ p_kd b n (p_nx b n s) ∧ p_kd b n (p_nx b n s) < up then nI (p_kd b n (p_nx b n s) - lo) else -nI 1)) (PWr b n t W H M (x_g (p_wt b n H w lo up hi (p_nx b n s)) (p_ts b n))) := by
    unfold fX12_kinded_b29 p_wt
    by_cases c : lo ≤ p_kd b n (p_nx b n s) ∧ p_kd b n (p_nx b n s) < up
    · have g2 := kk_nx (b := b) (n := n) (s := p_nx b n s) (by omega)
      have hz2 : BZ n 0 (p_nx b n (p_nx b n s)) := (hz1.nx (b := b) (k := 1) g2.1 g2.2).le (Nat.zero_le _)
      obtain ⟨N3, b1, k3, r3, R3⟩ := sX12_passWord R2 ok (by omega)
      have kk3 : FK t W M N3 := kk.tr (FK.ofN k3)
      have h9 : q_a N3 1000 9 t = nI W := (k3.a (not_SN (by decide))).trans f9
      rw [if_pos c, if_pos c, if_pos (show (0 : Int32) ≤ nI (p_kd b n (p_nx b n s) - lo) from nI_le (a := 0) (by omega) (by omega)), b1, q_bv_s]
      have go : ∀ hi, hi < 100 → qW (fX12_kinded_b58 N3 (nI w) (nI (p_kd b n (p_nx b n s) - lo)) (nI hi) (nI 0)) (PWr b n t W H M (x_g (x_g (p_num b n 0 hi (p_nx b n (p_nx b n s))) (fun s2 => .ok (p_if b n (h_c H (z_z (p_nx b n s)) w (p_kd b n (p_nx b n s) - lo) (nv b n (nx b n (z_p (p_nx b n s))))) s2))) (p_ts b n))) := fun hi hhi => by
        obtain ⟨v, N4, c1, c2⟩ := sX12_kinded_b58 (H := H) (w := w) (k := p_kd b n (p_nx b n s) - lo) R3 ok ht hz2 hhi h9 hW
        exact ⟨v, N4, c1, PWr.tr kk3 c2⟩
      rcases hw with ⟨e1, e2, e3, e4⟩ | ⟨e1, e2, e3, e4⟩
      · subst e4
        rw [if_neg (show ¬ nI w ≠ (0 : Int32) from fun z => z (by rw [e1]; rfl))]
        exact go 9 (by decide)
      · subst e4
        rw [if_pos (show nI w ≠ (0 : Int32) from fun z => by rw [e1] at z; exact absurd z (by decide))]
        exact go 15 (by decide)
    · rw [if_neg c, if_neg c, if_neg (by decide), show fX12_fails N2 (0 : Int32) (nI (z_p (p_nx b n s))) = _ from sX12_fails R2.2.2.2.2.2.1 (k := 0) (by decide) (by omega), q_b_s, if_pos (by decide)]
      refine qW_s ⟨kk.tr (FK.of (FQ.of (S := SM) (kp_i ⟨rfl, by decide⟩) SM_SWw not_SM6)), rfl, ?_⟩
      simp only [y_ii, y_ia, y_il, y_ir, y_ai, y_aa, y_al, y_ar, y_li, y_la, y_ll, y_lr, y_ri, y_ra, y_rl, y_rr, and_true, true_and, and_false, false_and, and_self, if_true, if_false, Nat.reduceEqDiff, reduceCtorEq, or_false, false_or, or_true, true_or]
  unfold fX12_kinded
  rw [a1, q_bv_s, a2, q_b_s]
  rcases hw with ⟨e1, e2, e3, e4⟩ | ⟨e1, e2, e3, e4⟩ <;> subst e1 <;> subst e2 <;> subst e3
  · rw [if_neg (by decide), sX12_kindHere R2 ok, q_b_s, e14]
    exact b29
  · rw [if_pos (by decide), sX12_meansHere R2 ok, q_b_s, e14]
    exact b29
def SJ (j a i : Nat) : Prop := a = 1000 ∧ (i = 14 ∨ i = 15 ∨ i = 16 ∨ i = j)
theorem sX12_sets (R : RD M b n t (z_p s) s) (ok : tp_ok n b) (ht : t < 6) (hk : p_kd b n s < 28) {j lo hi p : Nat} (hj : 11 ≤ j ∧ j ≤ 13) (hlo : lo < 100) (hhi : hi < 100) (ej : q_a M 1000 j t = -nI 1) : qW (fX12_sets M j (nI lo) (nI hi) (nI p)) (fun v N => kp (SJ j) M N ∧ (∀ c, c ≠ t → q_a N 1000 j c = q_a M 1000 j c) ∧ match p_num b n lo hi (p_nx b n s) with
    | .ok s2 => v = nI 1 ∧ (∃ r, RD N b n t r s2) ∧ q_a N 1000 j t = nI (nv b n (nx b n (z_p s)))
    | .error e => v = nI 0 ∧ q_i N 1000 15 = nI e) := by
  obtain ⟨N1, a1, k1, r1, R1'⟩ := sX12_passWord R ok hk
  obtain ⟨v, N2, b1, ⟨k2, b2⟩, b3⟩ := sX12_number R1' ok (lo := lo) (hi := hi) (by omega) (by omega)
  have k1' : kp (SJ j) M N1 := k1.wd (fun a i z => ⟨z.1, Or.inl z.2⟩)
  have k2' : kp (SJ j) N1 N2 := k2.1.wd (fun a i z => ⟨z.1, by have := z.2; omega⟩)
  have same : ∀ c, q_a N2 1000 j c = q_a M 1000 j c := fun c => (k2.1.a (fun z => by have := z.2; omega)).trans (k1.a (not_SN (by omega)))
  unfold fX12_sets
  rw [R.2.1, if_pos (q_inN (show t < 6 from ht) (by decide)), nI_cl (by omega), ej, if_pos (by decide), a1, q_bv_s, b1, q_b_s]
  cases hv : p_num b n lo hi (p_nx b n s) with
  | error f =>
    rw [hv] at b2
    obtain ⟨rfl, b2⟩ := b2
    rw [if_neg (by decide)]
    exact qW_s ⟨k1'.tr k2', fun c _ => same c, rfl, b2⟩
  | ok s2 =>
    rw [hv] at b2
    obtain ⟨rfl, r2, R2⟩ := b2
    have k3 : kp (fun a i => a = 1000 ∧ i = j) N2 (p_a N2 1000 j t (nI (nv b n (nx b n (z_p s))))) := kp_a ⟨rfl, rfl⟩
    rw [if_pos (by decide), R2.2.1, if_pos (q_inN (show t < 6 from ht) (by decide)), nI_cl (by omega), b3 (by decide), show z_p (p_nx b n s) = nx b n (z_p s) from rfl, q_t]
    refine qW_s ⟨(k1'.tr k2').tr (k3.wd (fun a i z => ⟨z.1, Or.inr (Or.inr (Or.inr z.2))⟩)), fun c hc => ?_, rfl, ⟨r2, R2.ofC (k3.wd (fun a i z => ⟨z.1, by have := z.2; omega⟩))⟩, ?_⟩
    · simp only [y_ii, y_ia, y_il, y_ir, y_ai, y_aa, y_al, y_ar, y_li, y_la, y_ll, y_lr, y_ri, y_ra, y_rl, y_rr, and_true, true_and, and_false, false_and, and_self, if_true, if_false, Nat.reduceEqDiff, reduceCtorEq, or_false, false_or, or_true, true_or, hc]
      exact same c
    · simp only [y_ii, y_ia, y_il, y_ir, y_ai, y_aa, y_al, y_ar, y_li, y_la, y_ll, y_lr, y_ri, y_ra, y_rl, y_rr, and_true, true_and, and_false, false_and, and_self, if_true, if_false, Nat.reduceEqDiff, reduceCtorEq, or_false, false_or, or_true, true_or]
theorem sX12_setsF (R : RD M b n t (z_p s) s) (ok : tp_ok n b) (ht : t < 6) {j v : Nat} (ej : q_a M 1000 j t = nI v) (hv : v < 100) (lo hi : Int32) : fX12_sets M j lo hi (nI (z_p s)) = some (nI 0, p_i M 1000 15 (nI (fl 4 (z_p s)))) := by
  have hn := ok.1
  have hr := R.2.2.2.1
  unfold fX12_sets
  rw [R.2.1, if_pos (q_inN (show t < 6 from ht) (by decide)), nI_cl (by omega), ej, if_neg (show ¬ nI v < (0 : Int32) from (show ¬ nI v < nI 0 from nI_nlt (Nat.zero_le _) (by omega))), show fX12_fails M (4 : Int32) (nI (z_p s)) = _ from sX12_fails R.2.2.2.2.2.1 (k := 4) (by decide) (by omega), q_b_s, if_pos (by decide)]
end CLAUSE
