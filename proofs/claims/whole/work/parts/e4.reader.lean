/-! the class's reader: leaves -/
abbrev HD : Type := (Nat × Nat × Nat) × Nat × (Nat → CL)
def h_n (H : HD) : Nat := H.2.1
def mkC (H : HD) (s : PZ) : CD := (H.1, (h_n H, fun i => if i + 1 = h_n H then ((H.2.2 i).1, (H.2.2 i).2.1, (H.2.2 i).2.2.1, (H.2.2 i).2.2.2.1, z_z s) else H.2.2 i), (z_z s, z_S s))
def TA (M : QM) (b : Nat → Nat) (n p : Nat) : Prop := ∃ J j, J ≤ 400 ∧ pl b n J = n ∧ (∀ i, i < J → pl b n i < n) ∧ q_i M 3 3 = nI (J + 1) ∧ TR M b n (J + 1) ∧ j ≤ J ∧ q_i M 2 2 = nI j ∧ pl b n j = p
def R1 (M : QM) (b : Nat → Nat) (n o : Nat) (H : HD) (s : PZ) : Prop := TA M b n (z_p s) ∧ q_i M 2 3 = nI (z_k s) ∧ q_r M 2 1 = o ∧ RC1 M o (mkC H s) ∧ q_i M o 7 = nI (z_z s)
def SR (o a _j : Nat) : Prop := a = 2 ∨ a = o
/-- what a reading call leaves -/
def PR1 (M : QM) (b : Nat → Nat) (n o : Nat) (H : HD) (r : Except Nat PZ) (v : Int32) (N : QM) : Prop := kp (SR o) M N ∧ match r with
  | .ok s => v = nI 1 ∧ R1 N b n o H s
  | .error e => v = nI 0 ∧ q_i N 2 4 = nI e ∧ 0 < e ∧ e < 4000
def BZ (n i : Nat) (s : PZ) : Prop := 2 * z_z s + i ≤ z_p s + 2 * z_k s ∧ z_p s ≤ n ∧ z_k s ≤ 50
section READER
variable {M : QM} {b : Nat → Nat} {n o p : Nat} {H : HD} {s : PZ}
theorem PR1.tr {M1 N : QM} {r : Except Nat PZ} {v : Int32} (k : kp (SR o) M M1) (h : PR1 M1 b n o H r v N) : PR1 M b n o H r v N := ⟨k.tr h.1, h.2⟩
theorem TA.kept {N : QM} {S : Nat → Nat → Prop} (h : TA M b n p) (k : kp S M N) (h3 : ∀ j, ¬ S 3 j) (h2 : ¬ S 2 2) : TA N b n p := by
  obtain ⟨J, j, a1, a2, a3, a4, a5, a6, a7, a8⟩ := h
  refine ⟨J, j, a1, a2, a3, (k.i (h3 _)).trans a4, fun i hi => ?_, a6, (k.i h2).trans a7, a8⟩
  rw [k.a (h3 _), k.a (h3 _), k.a (h3 _)]
  exact a5 i hi
theorem TA.kind (h : TA M b n p) : fX9_kindAt M (q_i M 2 2) = some (nI (kd b n p), M) := by
  obtain ⟨J, j, a1, a2, a3, a4, a5, a6, a7, a8⟩ := h
  have e := (a5 j (by omega)).1
  rw [a8] at e
  unfold fX9_kindAt
  simp (disch := omega) only [y_lit, y_lt_T, y_lt_F, y_le_T, y_le_F, y_eq_T, y_eq_F, y_in_T, y_cl, ↓reduceIte, y_bs, y_bvs, y_os, y_on, y_t, ne_eq, not_true_eq_false, not_false_eq_true, pk_mul, nI_add, a7, a4, e]
theorem TA.place (h : TA M b n p) : fX9_placeAt M (q_i M 2 2) = some (nI p, M) := by
  obtain ⟨J, j, a1, a2, a3, a4, a5, a6, a7, a8⟩ := h
  have e := (a5 j (by omega)).2.1
  rw [a8] at e
  unfold fX9_placeAt
  simp (disch := omega) only [y_lit, y_lt_T, y_lt_F, y_le_T, y_le_F, y_eq_T, y_eq_F, y_in_T, y_cl, ↓reduceIte, y_bs, y_bvs, y_os, y_on, y_t, ne_eq, not_true_eq_false, not_false_eq_true, pk_mul, nI_add, a7, a4, e]
theorem TA.number (h : TA M b n p) : fX9_numberAt M (q_i M 2 2) = some (nb b n p, M) := by
  obtain ⟨J, j, a1, a2, a3, a4, a5, a6, a7, a8⟩ := h
  have e := (a5 j (by omega)).2.2
  rw [a8] at e
  unfold fX9_numberAt
  simp (disch := omega) only [y_lit, y_lt_T, y_lt_F, y_le_T, y_le_F, y_eq_T, y_eq_F, y_in_T, y_cl, ↓reduceIte, y_bs, y_bvs, y_os, y_on, y_t, ne_eq, not_true_eq_false, not_false_eq_true, pk_mul, nI_add, a7, a4, e]
theorem TA.on (h : TA M b n p) : p ≤ n := by
  obtain ⟨J, j, a1, a2, a3, a4, a5, a6, a7, a8⟩ := h
  rw [← a8]
  by_cases q : j = J
  · rw [q, a2]
    exact Nat.le_refl _
  · exact Nat.le_of_lt (a3 j (by omega))
/-- the next token -/
theorem TA.step (h : TA M b n p) (hp : p < n) : ∃ v, q_i M 2 2 + nI 1 = v ∧ TA (p_i M 2 2 v) b n (nx b n p) := by
  obtain ⟨J, j, a1, a2, a3, a4, a5, a6, a7, a8⟩ := h
  have hj : j < J := by
    by_cases q : j = J
    · rw [q, a2] at a8
      omega
    · omega
  refine ⟨nI (j + 1), by rw [a7, nI_add], J, j + 1, a1, a2, a3, ?_, fun i hi => ?_, by omega, ?_, ?_⟩
  · simp only [y_ii, y_ia, y_il, y_ir, y_ai, y_aa, y_al, y_ar, y_li, y_la, y_ll, y_lr, y_ri, y_ra, y_rl, y_rr, and_true, true_and, and_false, false_and, and_self, if_true, if_false, Nat.reduceEqDiff, reduceCtorEq, or_false, false_or, or_true, true_or]
    exact a4
  · simp only [y_ii, y_ia, y_il, y_ir, y_ai, y_aa, y_al, y_ar, y_li, y_la, y_ll, y_lr, y_ri, y_ra, y_rl, y_rr, and_true, true_and, and_false, false_and, and_self, if_true, if_false, Nat.reduceEqDiff, reduceCtorEq, or_false, false_or, or_true, true_or]
    exact a5 i hi
  · simp only [y_ii, y_ia, y_il, y_ir, y_ai, y_aa, y_al, y_ar, y_li, y_la, y_ll, y_lr, y_ri, y_ra, y_rl, y_rr, and_true, true_and, and_false, false_and, and_self, if_true, if_false, Nat.reduceEqDiff, reduceCtorEq, or_false, false_or, or_true, true_or]
  · show nx b n (pl b n j) = _
    rw [a8]
theorem RC1.keptA {N : QM} {C : CD} (h : RC1 M o C) {S : Nat → Nat → Prop} (k : kp S M N) (hS : ∀ j, ¬ S o j) : RC1 N o C := h.any k (fun j z => absurd z (hS j))
/-- what only moves on the reader keeps -/
theorem R1.on {N : QM} (h : R1 M b n o H s) (k : kp (fun a j => a = 2 ∧ (j = 2 ∨ j = 3)) M N) (ho : 10 ≤ o) {p2 k2 : Nat} (t : TA N b n p2) (e : q_i N 2 3 = nI k2) : R1 N b n o H (p2, k2, z_z s, z_S s) := by
  obtain ⟨h1, h2, h3, h4, h5⟩ := h
  exact ⟨t, e, (k.r (by decide)).trans h3, h4.keptA k (fun j z => by omega), (k.i (by omega)).trans h5⟩
theorem R1.step (h : R1 M b n o H s) (ho : 10 ≤ o) (hp : z_p s < n) : ∃ N, p_i M 2 2 (q_i M 2 2 + nI 1) = N ∧ R1 N b n o H (p_nx b n s) ∧ kp (SR o) M N := by
  obtain ⟨v, e, t⟩ := h.1.step hp
  have k : kp (fun a j => a = 2 ∧ (j = 2 ∨ j = 3)) M (p_i M 2 2 v) := kp_i ⟨rfl, Or.inl rfl⟩
  refine ⟨p_i M 2 2 v, by rw [e], h.on k ho t ?_, k.wd (fun a j z => Or.inl z.1)⟩
  simp only [y_ii, y_ia, y_il, y_ir, y_ai, y_aa, y_al, y_ar, y_li, y_la, y_ll, y_lr, y_ri, y_ra, y_rl, y_rr, and_true, true_and, and_false, false_and, and_self, if_true, if_false, Nat.reduceEqDiff, reduceCtorEq, or_false, false_or, or_true, true_or]
  exact h.2.1
theorem sX5_fail (h : R1 M b n o H s) (hn : n ≤ 400) (k : Nat) (hk : k < 8) {r : Except Nat PZ} (hr : r = .error (fl k (z_p s))) : qW (fX5_fail M (nI k)) (fun v N => v = nI 0 ∧ PR1 M b n o H r v N) := by
  have hp := h.1.on
  subst hr
  unfold fX5_fail
  rw [h.1.place, q_b_s]
  simp (disch := omega) only [y_lit, y_lt_T, y_lt_F, y_le_T, y_le_F, y_eq_T, y_eq_F, y_in_T, y_cl, ↓reduceIte, y_bs, y_bvs, y_os, y_on, y_t, ne_eq, not_true_eq_false, not_false_eq_true, pk_mul, nI_add]
  refine qW_s ⟨rfl, kp_i (Or.inl rfl), rfl, ?_, ?_, ?_⟩
  · simp only [y_ii, y_ia, y_il, y_ir, y_ai, y_aa, y_al, y_ar, y_li, y_la, y_ll, y_lr, y_ri, y_ra, y_rl, y_rr, and_true, true_and, and_false, false_and, and_self, if_true, if_false, Nat.reduceEqDiff, reduceCtorEq, or_false, false_or, or_true, true_or]
    rfl
  · show 0 < fl k (z_p s)
    unfold fl
    omega
  · show fl k (z_p s) < 4000
    unfold fl
    omega
theorem sX5_wordFrom (h : TA M b n p) (hb : ∀ i, i < n → b i < 256) {lo hi : Nat} (h1 : lo < 1000) (h2 : hi < 1000) : fX5_wordFrom M (nI lo) (nI hi) = some (if lo ≤ kd b n p ∧ kd b n p < hi then nI (kd b n p - lo) else -nI 1, M) := by
  have hk := kd_lt hb p
  unfold fX5_wordFrom
  rw [h.kind, q_b_s]
  by_cases c1 : kd b n p < lo
  · rw [if_neg (show ¬ (lo ≤ kd b n p ∧ kd b n p < hi) by omega)]
    simp (disch := omega) only [y_lit, y_lt_T, y_lt_F, y_le_T, y_le_F, y_eq_T, y_eq_F, y_in_T, y_cl, ↓reduceIte, y_bs, y_bvs, y_os, y_on, y_t, ne_eq, not_true_eq_false, not_false_eq_true, pk_mul, nI_add]
  · by_cases c2 : hi ≤ kd b n p
    · rw [if_neg (show ¬ (lo ≤ kd b n p ∧ kd b n p < hi) by omega)]
      simp (disch := omega) only [y_lit, y_lt_T, y_lt_F, y_le_T, y_le_F, y_eq_T, y_eq_F, y_in_T, y_cl, ↓reduceIte, y_bs, y_bvs, y_os, y_on, y_t, ne_eq, not_true_eq_false, not_false_eq_true, pk_mul, nI_add]
    · rw [if_pos (show lo ≤ kd b n p ∧ kd b n p < hi by omega)]
      have es : nI (kd b n p) - nI lo = nI (kd b n p - lo) := pk_sub (by omega)
      simp (disch := omega) only [y_lit, y_lt_T, y_lt_F, y_le_T, y_le_F, y_eq_T, y_eq_F, y_in_T, y_cl, ↓reduceIte, y_bs, y_bvs, y_os, y_on, y_t, ne_eq, not_true_eq_false, not_false_eq_true, pk_mul, nI_add, es]
theorem sX5_takes (h : R1 M b n o H s) (ho : 10 ≤ o) (hb : ∀ i, i < n → b i < 256) {k : Nat} (hk : k < 1000) (hk2 : k ≠ 31) : (p_kd b n s = k ∧ ∃ N, fX5_takes M (nI k) = some (nI 1, N) ∧ R1 N b n o H (p_nx b n s) ∧ kp (SR o) M N) ∨ (p_kd b n s ≠ k ∧ fX5_takes M (nI k) = some (nI 0, M)) := by
  have hk3 := kd_lt hb (z_p s)
  unfold fX5_takes
  rw [h.1.kind, q_b_s]
  by_cases c : p_kd b n s = k
  · have c' : kd b n (z_p s) = k := c
    obtain ⟨N, e, R, kk⟩ := h.step ho (p_kd_on (b := b) (by omega))
    refine Or.inl ⟨c, N, ?_, R, kk⟩
    simp (disch := omega) only [y_lit, y_lt_T, y_lt_F, y_le_T, y_le_F, y_eq_T, y_eq_F, y_in_T, y_cl, ↓reduceIte, y_bs, y_bvs, y_os, y_on, y_t, ne_eq, not_true_eq_false, not_false_eq_true, pk_mul, nI_add]
    rw [e]
  · have c' : kd b n (z_p s) ≠ k := c
    refine Or.inr ⟨c, ?_⟩
    simp (disch := omega) only [y_lit, y_lt_T, y_lt_F, y_le_T, y_le_F, y_eq_T, y_eq_F, y_in_T, y_cl, ↓reduceIte, y_bs, y_bvs, y_os, y_on, y_t, ne_eq, not_true_eq_false, not_false_eq_true, pk_mul, nI_add]
/-- a part more, and on -/
theorem sX5_takesPart (h : R1 M b n o H s) (ho : 10 ≤ o) (hn : n ≤ 400) (hp : z_p s < n) (hk : z_k s ≤ 50) : qW (fX5_takesPart M) (fun v N => PR1 M b n o H (x_b (p_mk s) (fun s1 => .ok (p_nx b n s1))) v N) := by
  unfold fX5_takesPart p_mk
  by_cases c : z_k s < 50
  · obtain ⟨v, e, t⟩ := h.1.step hp
    have k3 : kp (fun a j => a = 2 ∧ j = 3) M (p_i M 2 3 (nI (z_k s + 1))) := kp_i ⟨rfl, rfl⟩
    obtain ⟨v2, e2, t2⟩ := (h.1.kept k3 (fun j z => by omega) (by decide)).step hp
    rw [if_pos c]
    simp (disch := omega) only [y_lit, y_lt_T, y_lt_F, y_le_T, y_le_F, y_eq_T, y_eq_F, y_in_T, y_cl, ↓reduceIte, y_bs, y_bvs, y_os, y_on, y_t, ne_eq, not_true_eq_false, not_false_eq_true, pk_mul, nI_add, h.2.1]
    rw [e2]
    have k : kp (fun a j => a = 2 ∧ (j = 2 ∨ j = 3)) M (p_i (p_i M 2 3 (nI (z_k s + 1))) 2 2 v2) := (kp_i ⟨rfl, Or.inr rfl⟩).tr (kp_i ⟨rfl, Or.inl rfl⟩)
    refine qW_s ⟨k.wd (fun a j z => Or.inl z.1), rfl, h.on k ho t2 ?_⟩
    simp only [y_ii, y_ia, y_il, y_ir, y_ai, y_aa, y_al, y_ar, y_li, y_la, y_ll, y_lr, y_ri, y_ra, y_rl, y_rr, and_true, true_and, and_false, false_and, and_self, if_true, if_false, Nat.reduceEqDiff, reduceCtorEq, or_false, false_or, or_true, true_or]
    rfl
  · rw [if_neg c]
    obtain ⟨v, N, e, rfl, g⟩ := sX5_fail h hn 3 (by decide) (r := .error (fl 3 (z_p s))) rfl
    have e : fX5_fail M (3 : Int32) = some (nI 0, N) := e
    simp (disch := omega) only [y_lit, y_lt_T, y_lt_F, y_le_T, y_le_F, y_eq_T, y_eq_F, y_in_T, y_cl, ↓reduceIte, y_bs, y_bvs, y_os, y_on, y_t, ne_eq, not_true_eq_false, not_false_eq_true, pk_mul, nI_add, h.2.1]
    have e : fX5_fail M (nI 3) = some (nI 0, N) := e
    rw [e, q_b_s, if_pos (show q_z (nI 0) by decide)]
    exact qW_s g
theorem sX2_addStep (h : R1 M b n o H s) (ho : 10 ≤ o) (hz : z_z s < 256) (h0 : 0 < h_n H) (h14 : h_n H ≤ 14) (x : STP) : qV (fX2_addStep M o (z_1 x)) (fun N => R1 N b n o H (p_em x s) ∧ kp (SR o) M N) := by
  obtain ⟨h1, h2, h3, h4, h5⟩ := h
  have e8 : q_i M o 8 = nI (h_n H) := h4.1
  have es : nI (h_n H) - nI 1 = nI (h_n H - 1) := pk_sub h0
  have k : kp (fun a j => a = o ∧ (j = 4 ∨ j = 5 ∨ j = 7)) M (p_a (p_i (p_a M o 5 (z_z s) (z_1 x)) o 7 (nI (z_z s + 1))) o 4 (h_n H - 1) (nI (z_z s + 1))) := ((kp_a ⟨rfl, Or.inr (Or.inl rfl)⟩).tr (kp_i ⟨rfl, Or.inr (Or.inr rfl)⟩)).tr (kp_a ⟨rfl, Or.inl rfl⟩)
  unfold fX2_addStep
  simp (disch := omega) only [y_lit, y_lt_T, y_lt_F, y_le_T, y_le_F, y_eq_T, y_eq_F, y_in_T, y_cl, ↓reduceIte, y_bs, y_bvs, y_os, y_on, y_t, ne_eq, not_true_eq_false, not_false_eq_true, pk_mul, nI_add, h5, e8, y_ii, y_ia, y_il, y_ir, y_ai, y_aa, y_al, y_ar, y_li, y_la, y_ll, y_lr, y_ri, y_ra, y_rl, y_rr, and_true, true_and, and_false, false_and, and_self, if_true, if_false, Nat.reduceEqDiff, reduceCtorEq, or_false, false_or, or_true, true_or, es]
  refine qV_s ⟨⟨h1.kept k (fun j z => by omega) (by omega), (k.i (by omega)).trans h2, (k.r (by omega)).trans h3, ?_, ?_⟩, k.wd (fun a j z => Or.inr z.1)⟩
  · obtain ⟨g1, g2, g3, g4, g5, g6⟩ := h4
    have g5 : ∀ i, i < h_n H → q_a M o 0 i = nI (c_s (mkC H s) i) ∧ q_a M o 1 i = nI (c_k (mkC H s) i) ∧ q_a M o 2 i = nI (c_v (mkC H s) i) ∧ q_a M o 3 i = nI (c_f (mkC H s) i) ∧ q_a M o 4 i = nI (c_t (mkC H s) i) := g5
    refine ⟨(k.i (by omega)).trans g1, (k.i (by omega)).trans g2, (k.i (by omega)).trans g3, (k.i (by omega)).trans g4, fun i hi => ?_, fun j hj => ?_⟩
    · have hi : i < h_n H := hi
      obtain ⟨f1, f2, f3, f4, f5⟩ := g5 i hi
      rw [k.a (by omega), k.a (by omega), k.a (by omega), k.a (by omega)]
      by_cases q : i + 1 = h_n H
      · have q2 : i = h_n H - 1 := by omega
        unfold c_s c_k c_v c_f c_t mkC at *
        simp only [q, if_true] at f1 f2 f3 f4 f5 ⊢
        refine ⟨f1, f2, f3, f4, ?_⟩
        simp only [y_ii, y_ia, y_il, y_ir, y_ai, y_aa, y_al, y_ar, y_li, y_la, y_ll, y_lr, y_ri, y_ra, y_rl, y_rr, and_true, true_and, and_false, false_and, and_self, if_true, if_false, Nat.reduceEqDiff, reduceCtorEq, or_false, false_or, or_true, true_or, q2]
        rfl
      · have q2 : ¬ i = h_n H - 1 := by omega
        unfold c_s c_k c_v c_f c_t mkC at *
        simp only [q, if_false] at f1 f2 f3 f4 f5 ⊢
        refine ⟨f1, f2, f3, f4, ?_⟩
        simp only [y_ii, y_ia, y_il, y_ir, y_ai, y_aa, y_al, y_ar, y_li, y_la, y_ll, y_lr, y_ri, y_ra, y_rl, y_rr, and_true, true_and, and_false, false_and, and_self, if_true, if_false, Nat.reduceEqDiff, reduceCtorEq, or_false, false_or, or_true, true_or, q2]
        exact f5
    · have hj : j < z_z s + 1 := hj
      show q_a _ o 5 j = z_1 (u_f (z_S s) (z_z s) x j)
      by_cases q : j = z_z s
      · subst q
        simp only [y_ii, y_ia, y_il, y_ir, y_ai, y_aa, y_al, y_ar, y_li, y_la, y_ll, y_lr, y_ri, y_ra, y_rl, y_rr, and_true, true_and, and_false, false_and, and_self, if_true, if_false, Nat.reduceEqDiff, reduceCtorEq, or_false, false_or, or_true, true_or, u_f_e]
      · simp only [y_ii, y_ia, y_il, y_ir, y_ai, y_aa, y_al, y_ar, y_li, y_la, y_ll, y_lr, y_ri, y_ra, y_rl, y_rr, and_true, true_and, and_false, false_and, and_self, if_true, if_false, Nat.reduceEqDiff, reduceCtorEq, or_false, false_or, or_true, true_or, q, u_f_n _ _ q]
        exact g6 j (by show j < z_z s; omega)
  · simp only [y_ii, y_ia, y_il, y_ir, y_ai, y_aa, y_al, y_ar, y_li, y_la, y_ll, y_lr, y_ri, y_ra, y_rl, y_rr, and_true, true_and, and_false, false_and, and_self, if_true, if_false, Nat.reduceEqDiff, reduceCtorEq, or_false, false_or, or_true, true_or]
    rfl
end READER
