/-! heads and clauses: the pure parser, the class's heads -/
def x_g {α β : Type} (r : Except Nat α) (f : α → Except Nat β) : Except Nat β := match r with
  | .error e => .error e
  | .ok s => f s
/-- the clauses, the last one's stop at z -/
def hf (H : HD) (z : Nat) : Nat → CL := fun i => if i + 1 = h_n H then ((H.2.2 i).1, (H.2.2 i).2.1, (H.2.2 i).2.2.1, (H.2.2 i).2.2.2.1, z) else H.2.2 i
def h_c (H : HD) (z w k v : Nat) : HD := (H.1, h_n H + 1, u_f (hf H z) (h_n H) (w, k, v, z, z))
def h_m (H : HD) (w v : Nat) : HD := (if w = 3 then (v, H.1.2.1, H.1.2.2) else if w = 4 then (H.1.1, v, H.1.2.2) else (H.1.1, H.1.2.1, v), H.2)
def hsF (C : Nat → CL) (w : Nat) : Nat → Bool
  | 0 => false
  | i + 1 => hsF C w i || decide ((C i).1 = w)
def hs (H : HD) (w : Nat) : Bool := hsF H.2.2 w (h_n H)
abbrev HZ : Type := HD × Bool × PZ
section HEADS
variable (b : Nat → Nat) (n : Nat)
def p_num (lo hi : Nat) (s : PZ) : Except Nat PZ := if p_kd b n s = 30 then (if de b n (z_p s) - z_p s ≤ 4 ∧ lo ≤ nv b n (z_p s) ∧ nv b n (z_p s) ≤ hi then .ok (p_nx b n s) else .error (fl 1 (z_p s))) else .error (fl 0 (z_p s))
def p_if (H : HD) (s : PZ) : HZ := if p_kd b n s = 14 then (H, true, p_nx b n s) else (H, false, s)
def p_wt (H : HD) (w lo up hi : Nat) (s : PZ) : Except Nat HZ := if lo ≤ p_kd b n s ∧ p_kd b n s < up then x_g (p_num b n 0 hi (p_nx b n s)) (fun s2 => .ok (p_if b n (h_c H (z_z s) w (p_kd b n s - lo) (nv b n (nx b n (z_p s)))) s2)) else .error (fl 0 (z_p s))
def p_me (H : HD) (w lo hi : Nat) (s : PZ) : Except Nat HZ := x_g (p_num b n lo hi s) (fun s2 => .ok (h_m (h_c H (z_z s) w 0 (nv b n (z_p s))) w (nv b n (z_p s)), false, s2))
def p_h2 (H : HD) (w : Nat) (s : PZ) : Except Nat HZ :=
  if w = 0 then p_wt b n H 0 6 10 9 s else if w = 1 then p_wt b n H 1 10 14 15 s else if w = 2 then .ok (h_c H (z_z s) 2 0 0, true, s)
  else if w = 3 then p_me b n H 3 0 15 s else if w = 4 then p_me b n H 4 1 8 s else p_me b n H 5 0 15 s
def p_hd (H : HD) (s : PZ) : Except Nat HZ := if p_kd b n s < 6 then (if 14 ≤ h_n H then .error (fl 4 (z_p s)) else if 3 ≤ p_kd b n s ∧ hs H (p_kd b n s) = true then .error (fl 4 (z_p s)) else p_h2 b n H (p_kd b n s) (p_nx b n s)) else .error (fl 0 (z_p s))
end HEADS
section HEADC
variable {M : QM} {b : Nat → Nat} {n o : Nat} {H : HD} {s : PZ}
theorem kd_30 {p : Nat} : kd b n p = 30 ↔ p < n ∧ isL (b p) = false ∧ isD (b p) = true := by
  unfold kd
  by_cases c : n ≤ p
  · rw [if_pos c]
    exact ⟨fun h => by omega, fun h => by omega⟩
  · rw [if_neg c]
    cases c2 : isL (b p) with
    | true =>
      rw [if_pos rfl]
      refine ⟨fun h => ?_, fun h => by cases h.2.1⟩
      rcases wi_28 (wl b n p) with q | q <;> omega
    | false =>
      rw [if_neg (by decide)]
      cases c3 : isD (b p) with
      | true =>
        rw [if_pos rfl]
        exact ⟨fun _ => ⟨by omega, rfl, rfl⟩, fun _ => rfl⟩
      | false =>
        rw [if_neg (by decide)]
        refine ⟨fun h => ?_, fun h => by cases h.2.2⟩
        exfalso
        generalize (if p + 1 < n then b (p + 1) else 0) = d at h
        unfold sgn at h
        split at h
        · omega
        · split at h
          · split at h <;> omega
          · omega
theorem nb_30 {p : Nat} (h : kd b n p = 30) : nb b n p = if de b n p - p ≤ 4 then nI (nv b n p) else -nI 1 := by
  obtain ⟨h1, h2, h3⟩ := kd_30.mp h
  unfold nb
  rw [if_neg (by omega), if_neg (by rw [h2]; decide), if_pos h3]
/-- as PR1, of any answer -/
def PH (o : Nat) {α : Type} (P : α → QM → Prop) (M : QM) (r : Except Nat α) (v : Int32) (N : QM) : Prop := kp (SR o) M N ∧ match r with
  | .ok s => v = nI 1 ∧ P s N
  | .error e => v = nI 0 ∧ q_i N 2 4 = nI e ∧ 0 < e ∧ e < 4000
theorem R1.stp (h : R1 M b n o H s) (ho : 10 ≤ o) (hp : z_p s < n) : ∃ N, p_i M 2 2 (q_i M 2 2 + nI 1) = N ∧ R1 N b n o H (p_nx b n s) ∧ kp (fun a j => a = 2 ∧ j = 2) M N := by
  obtain ⟨v, e, t⟩ := h.1.step hp
  have k : kp (fun a j => a = 2 ∧ (j = 2 ∨ j = 3)) M (p_i M 2 2 v) := kp_i ⟨rfl, Or.inl rfl⟩
  refine ⟨p_i M 2 2 v, by rw [e], h.on k ho t ?_, kp_i ⟨rfl, rfl⟩⟩
  simp only [y_ii, y_ia, y_il, y_ir, y_ai, y_aa, y_al, y_ar, y_li, y_la, y_ll, y_lr, y_ri, y_ra, y_rl, y_rr, and_true, true_and, and_false, false_and, and_self, if_true, if_false, Nat.reduceEqDiff, reduceCtorEq, or_false, false_or, or_true, true_or]
  exact h.2.1
theorem sX5_takesNumber (R : R1 M b n o H s) (ho : 10 ≤ o) (hb : tp_ok n b) {lo hi : Nat} (hlo : lo < 1000) (hhi : hi < 1000) : qW (fX5_takesNumber M (nI lo) (nI hi)) (PH o (fun s2 N => R1 N b n o H s2 ∧ q_i N 2 5 = q_i M 2 5) M (p_num b n lo hi s)) := by
  have hn := hb.1
  have hk := kd_lt hb.2 (z_p s)
  unfold fX5_takesNumber p_num
  rw [R.1.kind, q_b_s]
  by_cases c : p_kd b n s = 30
  · have c' : kd b n (z_p s) = 30 := c
    have hp := p_kd_on (b := b) (n := n) (s := s) (by omega)
    obtain ⟨N, e, R2, k⟩ := R.stp ho hp
    rw [if_pos c, c', if_pos (show nI 30 = (30 : Int32) from rfl), R.1.number, q_b_s, nb_30 c']
    by_cases c4 : de b n (z_p s) - z_p s ≤ 4
    · have hv := nv_b (b := b) (n := n) (p := z_p s) (by omega) c4
      rw [if_pos c4]
      by_cases c5 : lo ≤ nv b n (z_p s) ∧ nv b n (z_p s) ≤ hi
      · rw [sX11_isWithin, if_pos (show nI lo ≤ nI (nv b n (z_p s)) ∧ nI (nv b n (z_p s)) ≤ nI hi from ⟨nI_le c5.1 (by omega), nI_le c5.2 (by omega)⟩), q_b_s, if_pos (by decide), if_pos (show de b n (z_p s) - z_p s ≤ 4 ∧ lo ≤ nv b n (z_p s) ∧ nv b n (z_p s) ≤ hi from ⟨c4, c5⟩)]
        have e : p_i M 2 2 (q_i M 2 2 + (1 : Int32)) = N := e
        rw [e, q_t]
        exact qW_s ⟨k.wd (fun a j z => Or.inl z.1), rfl, R2, k.i (by decide)⟩
      · rw [sX11_isWithin, if_neg (show ¬ (nI lo ≤ nI (nv b n (z_p s)) ∧ nI (nv b n (z_p s)) ≤ nI hi) from fun z => c5 ⟨Nat.le_of_not_lt (fun q => nI_ge q (by omega) z.1), Nat.le_of_not_lt (fun q => nI_ge q (by omega) z.2)⟩), q_b_s, if_neg (by decide), if_neg (show ¬ (de b n (z_p s) - z_p s ≤ 4 ∧ lo ≤ nv b n (z_p s) ∧ nv b n (z_p s) ≤ hi) from fun z => c5 z.2)]
        obtain ⟨v, N2, e2, rfl, g⟩ := sX5_fail R hn 1 (by decide) (r := .error (fl 1 (z_p s))) rfl
        rw [show fX5_fail M (1 : Int32) = some (nI 0, N2) from e2, q_b_s, if_pos (by decide)]
        exact qW_s g
    · rw [if_neg c4, sX11_isWithin, if_neg (show ¬ (nI lo ≤ -nI 1 ∧ -nI 1 ≤ nI hi) from fun z => absurd (Int32.lt_of_lt_of_le (m1_neg (k := lo) (by omega)) z.1) Int32.lt_irrefl), q_b_s, if_neg (by decide), if_neg (show ¬ (de b n (z_p s) - z_p s ≤ 4 ∧ lo ≤ nv b n (z_p s) ∧ nv b n (z_p s) ≤ hi) from fun z => c4 z.1)]
      obtain ⟨v, N2, e2, rfl, g⟩ := sX5_fail R hn 1 (by decide) (r := .error (fl 1 (z_p s))) rfl
      rw [show fX5_fail M (1 : Int32) = some (nI 0, N2) from e2, q_b_s, if_pos (by decide)]
      exact qW_s g
  · have c' : kd b n (z_p s) ≠ 30 := c
    rw [if_neg c, if_neg (show ¬ nI (kd b n (z_p s)) = (30 : Int32) from fun z => c' ((nI_eq (by omega) (by decide)).mp (show nI (kd b n (z_p s)) = nI 30 from z)))]
    obtain ⟨v, N2, e2, rfl, g⟩ := sX5_fail R hn 0 (by decide) (r := .error (fl 0 (z_p s))) rfl
    rw [show fX5_fail M (0 : Int32) = some (nI 0, N2) from e2, q_b_s, if_pos (by decide)]
    exact qW_s g
theorem hf_c {z w k v z2 : Nat} (i : Nat) : hf (h_c H z w k v) z2 i = if i = h_n H then (w, k, v, z, z2) else hf H z i := by
  show (if i + 1 = h_n H + 1 then ((u_f (hf H z) (h_n H) (w, k, v, z, z) i).1, (u_f (hf H z) (h_n H) (w, k, v, z, z) i).2.1, (u_f (hf H z) (h_n H) (w, k, v, z, z) i).2.2.1, (u_f (hf H z) (h_n H) (w, k, v, z, z) i).2.2.2.1, z2) else u_f (hf H z) (h_n H) (w, k, v, z, z) i) = _
  by_cases c : i = h_n H
  · rw [if_pos (by omega), if_pos c, c, u_f_e]
  · rw [if_neg (by omega), if_neg c, u_f_n _ _ c]
theorem sX2_addClause (R : R1 M b n o H s) (ho : 10 ≤ o) (hz : z_z s < 100000) (h14 : h_n H < 14) (w k v : Nat) : qV (fX2_addClause M o (nI w) (nI k) (nI v)) (fun N => R1 N b n o (h_c H (z_z s) w k v) s ∧ kp (fun a j => a = o) M N) := by
  obtain ⟨h1, h2, h3, h4, h5⟩ := R
  have e8 : q_i M o 8 = nI (h_n H) := h4.1
  unfold fX2_addClause
  simp (disch := omega) only [y_lit, y_lt_T, y_lt_F, y_le_T, y_le_F, y_eq_T, y_eq_F, y_in_T, y_cl, ↓reduceIte, y_bs, y_bvs, y_os, y_on, y_t, ne_eq, not_true_eq_false, not_false_eq_true, pk_mul, nI_add, y_ii, y_ia, y_il, y_ir, y_ai, y_aa, y_al, y_ar, y_li, y_la, y_ll, y_lr, y_ri, y_ra, y_rl, y_rr, and_true, true_and, and_false, false_and, and_self, if_true, if_false, Nat.reduceEqDiff, reduceCtorEq, or_false, false_or, or_true, true_or, h5, e8]
  generalize hN : p_i _ o 8 (nI (h_n H + 1)) = N
  have k : kp (fun a j => a = o ∧ (j < 5 ∨ j = 8)) M N := by
    rw [← hN]
    exact (((((kp_a ⟨rfl, by omega⟩).tr (kp_a ⟨rfl, by omega⟩)).tr (kp_a ⟨rfl, by omega⟩)).tr (kp_a ⟨rfl, by omega⟩)).tr (kp_a ⟨rfl, by omega⟩)).tr (kp_i ⟨rfl, by omega⟩)
  obtain ⟨g1, g2, g3, g4, g5, g6⟩ := h4
  refine qV_s ⟨⟨h1.kept k (fun j z => by omega) (by omega), (k.i (by omega)).trans h2, (k.r (by omega)).trans h3, ?_, (k.i (by omega)).trans h5⟩, k.wd (fun a j z => z.1)⟩
  refine ⟨by rw [← hN]; simp only [y_ii, y_ia, y_il, y_ir, y_ai, y_aa, y_al, y_ar, y_li, y_la, y_ll, y_lr, y_ri, y_ra, y_rl, y_rr, and_true, true_and, and_false, false_and, and_self, if_true, if_false, Nat.reduceEqDiff, reduceCtorEq, or_false, false_or, or_true, true_or]; rfl, (k.i (by omega)).trans g2, (k.i (by omega)).trans g3, (k.i (by omega)).trans g4, fun i hi => ?_, fun j hj => (k.a (by omega)).trans (g6 j hj)⟩
  have hi : i < h_n H + 1 := hi
  show q_a N o 0 i = nI (hf (h_c H (z_z s) w _ v) (z_z s) i).1 ∧ q_a N o 1 i = nI (hf (h_c H (z_z s) w _ v) (z_z s) i).2.1 ∧ q_a N o 2 i = nI (hf (h_c H (z_z s) w _ v) (z_z s) i).2.2.1 ∧ q_a N o 3 i = nI (hf (h_c H (z_z s) w _ v) (z_z s) i).2.2.2.1 ∧ q_a N o 4 i = nI (hf (h_c H (z_z s) w _ v) (z_z s) i).2.2.2.2
  rw [hf_c, ← hN]
  by_cases c : i = h_n H
  · rw [if_pos c]
    subst c
    simp only [y_ii, y_ia, y_il, y_ir, y_ai, y_aa, y_al, y_ar, y_li, y_la, y_ll, y_lr, y_ri, y_ra, y_rl, y_rr, and_true, true_and, and_false, false_and, and_self, if_true, if_false, Nat.reduceEqDiff, reduceCtorEq, or_false, false_or, or_true, true_or]
  · rw [if_neg c]
    simp only [y_ii, y_ia, y_il, y_ir, y_ai, y_aa, y_al, y_ar, y_li, y_la, y_ll, y_lr, y_ri, y_ra, y_rl, y_rr, and_true, true_and, and_false, false_and, and_self, if_true, if_false, Nat.reduceEqDiff, reduceCtorEq, or_false, false_or, or_true, true_or, c]
    exact g5 i (by show i < h_n H; omega)
theorem sX2_setMeasure (R : R1 M b n o H s) (ho : 10 ≤ o) {w v : Nat} (hw : w = 3 ∨ w = 4 ∨ w = 5) : qV (fX2_setMeasure M o (nI w) (nI v)) (fun N => R1 N b n o (h_m H w v) s ∧ kp (fun a j => a = o) M N) := by
  obtain ⟨h1, h2, h3, h4, h5⟩ := R
  obtain ⟨g1, g2, g3, g4, g5, g6⟩ := h4
  have one : ∀ i, 8 < i → i < 12 → q_i (p_i M o i (nI v)) o 9 = nI (h_m H w v).1.1 → q_i (p_i M o i (nI v)) o 10 = nI (h_m H w v).1.2.1 → q_i (p_i M o i (nI v)) o 11 = nI (h_m H w v).1.2.2 → R1 (p_i M o i (nI v)) b n o (h_m H w v) s ∧ kp (fun a j => a = o) M (p_i M o i (nI v)) := fun i i1 i2 a1 a2 a3 => by
    have k : kp (fun a j => a = o ∧ (8 < j ∧ j < 12)) M (p_i M o i (nI v)) := kp_i ⟨rfl, i1, i2⟩
    exact ⟨⟨h1.kept k (fun j z => by omega) (by omega), (k.i (by omega)).trans h2, (k.r (by omega)).trans h3, ⟨(k.i (by omega)).trans g1, a1, a2, a3, fun j hj => by
      rw [k.a (by omega), k.a (by omega), k.a (by omega), k.a (by omega), k.a (by omega)]
      exact g5 j hj, fun j hj => (k.a (by omega)).trans (g6 j hj)⟩, (k.i (by omega)).trans h5⟩, k.wd (fun a j z => z.1)⟩
  have g2 : q_i M o 9 = nI H.1.1 := g2
  have g3 : q_i M o 10 = nI H.1.2.1 := g3
  have g4 : q_i M o 11 = nI H.1.2.2 := g4
  unfold fX2_setMeasure
  rcases hw with e | e | e <;> subst e
  · simp (disch := omega) only [y_lit, y_lt_T, y_lt_F, y_le_T, y_le_F, y_eq_T, y_eq_F, y_in_T, y_cl, ↓reduceIte, y_bs, y_bvs, y_os, y_on, y_t, ne_eq, not_true_eq_false, not_false_eq_true, pk_mul, nI_add]
    refine qV_s (one 9 (by decide) (by decide) ?_ ?_ ?_) <;> simp only [y_ii, y_ia, y_il, y_ir, y_ai, y_aa, y_al, y_ar, y_li, y_la, y_ll, y_lr, y_ri, y_ra, y_rl, y_rr, and_true, true_and, and_false, false_and, and_self, if_true, if_false, Nat.reduceEqDiff, reduceCtorEq, or_false, false_or, or_true, true_or, h_m, Nat.reduceEqDiff, g2, g3, g4]
  · simp (disch := omega) only [y_lit, y_lt_T, y_lt_F, y_le_T, y_le_F, y_eq_T, y_eq_F, y_in_T, y_cl, ↓reduceIte, y_bs, y_bvs, y_os, y_on, y_t, ne_eq, not_true_eq_false, not_false_eq_true, pk_mul, nI_add]
    refine qV_s (one 10 (by decide) (by decide) ?_ ?_ ?_) <;> simp only [y_ii, y_ia, y_il, y_ir, y_ai, y_aa, y_al, y_ar, y_li, y_la, y_ll, y_lr, y_ri, y_ra, y_rl, y_rr, and_true, true_and, and_false, false_and, and_self, if_true, if_false, Nat.reduceEqDiff, reduceCtorEq, or_false, false_or, or_true, true_or, h_m, Nat.reduceEqDiff, g2, g3, g4]
  · simp (disch := omega) only [y_lit, y_lt_T, y_lt_F, y_le_T, y_le_F, y_eq_T, y_eq_F, y_in_T, y_cl, ↓reduceIte, y_bs, y_bvs, y_os, y_on, y_t, ne_eq, not_true_eq_false, not_false_eq_true, pk_mul, nI_add]
    refine qV_s (one 11 (by decide) (by decide) ?_ ?_ ?_) <;> simp only [y_ii, y_ia, y_il, y_ir, y_ai, y_aa, y_al, y_ar, y_li, y_la, y_ll, y_lr, y_ri, y_ra, y_rl, y_rr, and_true, true_and, and_false, false_and, and_self, if_true, if_false, Nat.reduceEqDiff, reduceCtorEq, or_false, false_or, or_true, true_or, h_m, Nat.reduceEqDiff, g2, g3, g4]
theorem sX2_has_b2 (R : RC1 M o (mkC H s)) (h14 : h_n H ≤ 14) {w : Nat} (hw : w < 1000) (hs6 : ∀ i, i < h_n H → (H.2.2 i).1 < 6) : ∀ (d i q : Nat), i + d = h_n H → d < q → hsF H.2.2 w i = false → fX2_has_b2 q M o (nI w) (nI i) = some (nI (if hs H w then 1 else 0), M) := by
  have e8 : q_i M o 8 = nI (h_n H) := R.1
  intro d
  induction d with
  | zero =>
    intro i q hi hq hh
    obtain ⟨q, rfl⟩ : ∃ p, q = p + 1 := ⟨q - 1, by omega⟩
    have e : i = h_n H := by omega
    rw [fX2_has_b2]
    unfold hs
    rw [← e, hh]
    rw [← e] at e8
    simp (disch := omega) only [y_lit, y_lt_T, y_lt_F, y_le_T, y_le_F, y_eq_T, y_eq_F, y_in_T, y_cl, ↓reduceIte, y_bs, y_bvs, y_os, y_on, y_t, ne_eq, not_true_eq_false, not_false_eq_true, pk_mul, nI_add, e8]
    rfl
  | succ d ih =>
    intro i q hi hq hh
    obtain ⟨q, rfl⟩ : ∃ p, q = p + 1 := ⟨q - 1, by omega⟩
    have ea : q_a M o 0 i = nI (H.2.2 i).1 := by
      rw [(R.2.2.2.2.1 i (by show i < h_n H; omega)).1]
      show nI (hf H (z_z s) i).1 = _
      unfold hf
      split <;> rfl
    have h6 := hs6 i (by omega)
    rw [fX2_has_b2]
    by_cases c : (H.2.2 i).1 = w
    · have ht : ∀ j, hsF H.2.2 w (i + 1 + j) = true := by
        intro j
        induction j with
        | zero =>
          show (hsF H.2.2 w i || decide ((H.2.2 i).1 = w)) = true
          rw [c, hh]
          simp
        | succ j ihj =>
          show (hsF H.2.2 w (i + 1 + j) || _) = true
          rw [ihj]
          rfl
      have h1 : hs H w = true := by
        have := ht d
        unfold hs
        rw [← hi, show i + (d + 1) = i + 1 + d by omega]
        exact this
      rw [h1]
      simp (disch := omega) only [y_lit, y_lt_T, y_lt_F, y_le_T, y_le_F, y_eq_T, y_eq_F, y_in_T, y_cl, ↓reduceIte, y_bs, y_bvs, y_os, y_on, y_t, ne_eq, not_true_eq_false, not_false_eq_true, pk_mul, nI_add, e8, ea, c]
    · simp (disch := omega) only [y_lit, y_lt_T, y_lt_F, y_le_T, y_le_F, y_eq_T, y_eq_F, y_in_T, y_cl, ↓reduceIte, y_bs, y_bvs, y_os, y_on, y_t, ne_eq, not_true_eq_false, not_false_eq_true, pk_mul, nI_add, e8, ea]
      exact ih (i + 1) q (by omega) (by omega) (by
        show (hsF H.2.2 w i || decide ((H.2.2 i).1 = w)) = false
        rw [hh, decide_eq_false c]
        rfl)
theorem sX2_has (R : RC1 M o (mkC H s)) (h14 : h_n H ≤ 14) {w : Nat} (hw : w < 1000) (hs6 : ∀ i, i < h_n H → (H.2.2 i).1 < 6) : fX2_has M o (nI w) = some (nI (if hs H w then 1 else 0), M) := by
  unfold fX2_has
  rw [nI0]
  exact sX2_has_b2 R h14 hw hs6 (h_n H) 0 q_F (by omega) (q_Fn (by omega)) rfl
end HEADC
