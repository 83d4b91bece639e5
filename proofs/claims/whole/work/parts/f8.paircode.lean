/-! the reference's code; pair_code -/
def SEe (a j : Nat) : Prop := a = 1000 ∧ 4 ≤ j ∧ j ≤ 21
def FE (t : Nat) (M N : QM) : Prop := kp SEe M N ∧ (∀ c, c < 400 * t → q_a N 1000 6 c = q_a M 1000 6 c) ∧ (∀ c, c < 70 * t → q_a N 1000 8 c = q_a M 1000 8 c) ∧ ∀ j, 9 ≤ j → j ≤ 13 → ∀ c, c ≠ t → q_a N 1000 j c = q_a M 1000 j c
theorem FE.tr {t : Nat} {M N K : QM} (h : FE t M N) (g : FE t N K) : FE t M K := ⟨h.1.tr g.1, fun c hc => (g.2.1 c hc).trans (h.2.1 c hc), fun c hc => (g.2.2.1 c hc).trans (h.2.2.1 c hc), fun j a1 a2 c hc => (g.2.2.2 j a1 a2 c hc).trans (h.2.2.2 j a1 a2 c hc)⟩
theorem FE.ofC {t : Nat} {M N : QM} (k : FC t M N) : FE t M N := ⟨k.1.wd (fun a j z => ⟨z.1, by have := z.2; omega⟩), k.2⟩
theorem FE.ofi {t j : Nat} {M : QM} (hj : 4 ≤ j ∧ j ≤ 21) (x : Int32) : FE t M (p_i M 1000 j x) := ⟨kp_i ⟨rfl, hj⟩, fun c _ => by simp only [y_ii, y_ia, y_il, y_ir, y_ai, y_aa, y_al, y_ar, y_li, y_la, y_ll, y_lr, y_ri, y_ra, y_rl, y_rr, and_true, true_and, and_false, false_and, and_self, if_true, if_false, Nat.reduceEqDiff, reduceCtorEq, or_false, false_or, or_true, true_or], fun c _ => by simp only [y_ii, y_ia, y_il, y_ir, y_ai, y_aa, y_al, y_ar, y_li, y_la, y_ll, y_lr, y_ri, y_ra, y_rl, y_rr, and_true, true_and, and_false, false_and, and_self, if_true, if_false, Nat.reduceEqDiff, reduceCtorEq, or_false, false_or, or_true, true_or], fun _ _ _ c _ => by simp only [y_ii, y_ia, y_il, y_ir, y_ai, y_aa, y_al, y_ar, y_li, y_la, y_ll, y_lr, y_ri, y_ra, y_rl, y_rr, and_true, true_and, and_false, false_and, and_self, if_true, if_false, Nat.reduceEqDiff, reduceCtorEq, or_false, false_or, or_true, true_or]⟩
theorem FE.oft {t j : Nat} {M : QM} (hj : 9 ≤ j ∧ j ≤ 13) (x : Int32) : FE t M (p_a M 1000 j t x) := ⟨kp_a ⟨rfl, by omega⟩, fun c _ => by simp only [y_ii, y_ia, y_il, y_ir, y_ai, y_aa, y_al, y_ar, y_li, y_la, y_ll, y_lr, y_ri, y_ra, y_rl, y_rr, and_true, true_and, and_false, false_and, and_self, if_true, if_false, Nat.reduceEqDiff, reduceCtorEq, or_false, false_or, or_true, true_or, show ¬ 6 = j by omega], fun c _ => by simp only [y_ii, y_ia, y_il, y_ir, y_ai, y_aa, y_al, y_ar, y_li, y_la, y_ll, y_lr, y_ri, y_ra, y_rl, y_rr, and_true, true_and, and_false, false_and, and_self, if_true, if_false, Nat.reduceEqDiff, reduceCtorEq, or_false, false_or, or_true, true_or, show ¬ 8 = j by omega], fun i _ _ c hc => by simp only [y_ii, y_ia, y_il, y_ir, y_ai, y_aa, y_al, y_ar, y_li, y_la, y_ll, y_lr, y_ri, y_ra, y_rl, y_rr, and_true, true_and, and_false, false_and, and_self, if_true, if_false, Nat.reduceEqDiff, reduceCtorEq, or_false, false_or, or_true, true_or, hc]⟩
theorem FE.of7 {t : Nat} {M : QM} (x : Int32) : FE t M (p_a M 1000 7 t x) := ⟨kp_a ⟨rfl, by omega⟩, fun c _ => by simp only [y_ii, y_ia, y_il, y_ir, y_ai, y_aa, y_al, y_ar, y_li, y_la, y_ll, y_lr, y_ri, y_ra, y_rl, y_rr, and_true, true_and, and_false, false_and, and_self, if_true, if_false, Nat.reduceEqDiff, reduceCtorEq, or_false, false_or, or_true, true_or], fun c _ => by simp only [y_ii, y_ia, y_il, y_ir, y_ai, y_aa, y_al, y_ar, y_li, y_la, y_ll, y_lr, y_ri, y_ra, y_rl, y_rr, and_true, true_and, and_false, false_and, and_self, if_true, if_false, Nat.reduceEqDiff, reduceCtorEq, or_false, false_or, or_true, true_or], fun i _ _ c hc => by simp only [y_ii, y_ia, y_il, y_ir, y_ai, y_aa, y_al, y_ar, y_li, y_la, y_ll, y_lr, y_ri, y_ra, y_rl, y_rr, and_true, true_and, and_false, false_and, and_self, if_true, if_false, Nat.reduceEqDiff, reduceCtorEq, or_false, false_or, or_true, true_or, hc]⟩
/-- the measures not told stand at their first values -/
def HDf (H : HD) : Prop := (hs H 3 = false → H.1.1 = 1) ∧ (hs H 4 = false → H.1.2.1 = 6) ∧ (hs H 5 = false → H.1.2.2 = 1)
def p_tl (b : Nat → Nat) (n f : Nat) (H : HD) (s : PZ) : Except Nat CD := if p_kd b n s = 31 then .ok (mkC H s) else if p_kd b n s = 315 then p_lp b n f H (p_nx b n s) else .error (fl 0 (z_p s))
def PCo (t : Nat) (M : QM) (r : Except Nat CD) (v : Int32) (N : QM) : Prop := FE t M N ∧ q_i N 1000 4 = nI 0 ∧ match r with
  | .ok C => v = nI t ∧ RC2 N t C ∧ q_i N 1000 5 = nI (t + 1)
  | .error e => v = (-2 : Int32) - nI e ∧ q_i N 1000 5 = nI t
section CODE3
variable {M N : QM} {b : Nat → Nat} {n t r : Nat} {s s1 : PZ} {H H1 : HD}
theorem R2H.mv {r2 : Nat} {s2 : PZ} (R : R2H M b n t r H s) (k : kp SN M N) (e : mkC H s2 = mkC H s) (R2 : RD N b n t r2 s2) : R2H N b n t r2 H s2 := by
  obtain ⟨h1, h2, h3, h4, h5, h6, h7⟩ := R
  have nS : ∀ {j : Nat}, j ≠ 14 → ¬ SN 1000 j := fun hj => not_SN hj
  unfold R2H
  rw [e]
  refine ⟨R2, (k.a (nS (by decide))).trans h2, (k.a (nS (by decide))).trans h3, fun i a1 a2 => ?_, (k.a (nS (by decide))).trans h5, (k.a (nS (by decide))).trans h6, (k.a (nS (by decide))).trans h7⟩
  obtain ⟨g1, g2, g3, g4, g5⟩ := h4 i a1 a2
  exact ⟨(k.a (nS (by decide))).trans g1, (k.a (nS (by decide))).trans g2, (k.a (nS (by decide))).trans g3, (k.a (nS (by decide))).trans g4, (k.a (nS (by decide))).trans g5⟩
theorem p_lp_tl (f : Nat) : p_lp b n (f + 1) H s = x_g (x_g (p_hd b n H s) (p_ts b n)) (fun y => p_tl b n f y.1 y.2) := by
  rw [p_lp]
  cases p_hd b n H s with
  | error e => rfl
  | ok q =>
    show x_g (if q.2.1 = true then p_tst b n (p_fact b n 14 0) q.2.2 else .ok q.2.2) _ = x_g (x_g (if q.2.1 = true then p_tst b n (p_fact b n 14 0) q.2.2 else .ok q.2.2) (fun s2 => .ok (q.1, s2))) _
    cases (if q.2.1 = true then p_tst b n (p_fact b n 14 0) q.2.2 else .ok q.2.2 : Except Nat PZ) with
    | error e => rfl
    | ok s2 => rfl
theorem HI.df {T : Bool} (h : HI n H s H1 T s1) (g : HDf H) : HDf H1 := by
  obtain ⟨h1, h2, h3, h4, h5, h6, w, k, v, a1, a2, a3, a4, a5, a6⟩ := h
  have e : ∀ w2, hs H1 w2 = (hs H w2 || decide (w = w2)) := fun w2 => by
    rw [← hs_c H (z_z s) w k v w2]
    unfold hs h_n
    rw [a5]
  obtain ⟨g1, g2, g3⟩ := g
  unfold HDf
  rw [e 3, e 4, e 5]
  rcases a6 with ⟨b1, b2⟩ | ⟨b1, b2, b3, b4⟩
  · rw [b2, decide_eq_false (by omega), decide_eq_false (by omega), decide_eq_false (by omega), Bool.or_false, Bool.or_false, Bool.or_false]
    exact ⟨g1, g2, g3⟩
  · rw [b3]
    unfold h_m
    have hw : w = 3 ∨ w = 4 ∨ w = 5 := by omega
    rcases hw with e | e | e <;> subst e
    · rw [if_pos rfl, decide_eq_true rfl, Bool.or_true, decide_eq_false (by decide), Bool.or_false, decide_eq_false (by decide), Bool.or_false]
      exact ⟨fun z => by (cases z), g2, g3⟩
    · rw [if_neg (by decide), if_pos rfl, decide_eq_false (by decide), Bool.or_false, decide_eq_true rfl, Bool.or_true, decide_eq_false (by decide), Bool.or_false]
      exact ⟨g1, fun z => by (cases z), g3⟩
    · rw [if_neg (by decide), if_neg (by decide), decide_eq_false (by decide), Bool.or_false, decide_eq_false (by decide), Bool.or_false, decide_eq_true rfl, Bool.or_true]
      exact ⟨g1, g2, fun z => by (cases z)⟩
theorem R2H.fin (R : R2H M b n t r H s) (hd : HDf H) (ht : t < 6) (hm : H.1.1 < 16 ∧ H.1.2.1 < 9 ∧ H.1.2.2 < 16) (e5 : q_i M 1000 5 = nI t) : qW (fX12_code_b152 M) (PCo t M (.ok (mkC H s))) := by
  obtain ⟨h1, h2, h3, h4, h5, h6, h7⟩ := R
  have e17 := h1.2.1
  have e15 := h1.2.2.2.2.2.1
  have steps := h1.2.2.2.2.2.2.2.2
  have val : ∀ (x d : Nat) (c : Bool), (c = false → x = d) → x < 100 → ∀ u : Int32, u = (if c = true then nI x else -nI 1) → (if (0 : Int32) ≤ u then u else nI d) = nI x := fun x d c hc hx u hu => by
    cases c with
    | true =>
      have hu : u = nI x := hu
      rw [hu, if_pos (show (0 : Int32) ≤ nI x from nI_le (a := 0) (Nat.zero_le _) (by omega))]
    | false =>
      have hu : u = -nI 1 := hu
      rw [hu, if_neg (by decide), hc rfl]
  have v1 := val H.1.1 1 (hs H 3) hd.1 (by omega) _ h5
  have v2 := val H.1.2.1 6 (hs H 4) hd.2.1 (by omega) _ h6
  have v3 := val H.1.2.2 1 (hs H 5) hd.2.2 (by omega) _ h7
  have fin : ∀ N, p_i (p_a (p_a (p_a (p_i M 1000 4 (nI 0)) 1000 11 t (nI H.1.1)) 1000 12 t (nI H.1.2.1)) 1000 13 t (nI H.1.2.2)) 1000 5 (nI (t + 1)) = N → PCo t M (.ok (mkC H s)) (nI t) N := fun N hN => by
    have fe : FE t M N := by
      rw [← hN]
      exact ((((FE.ofi (by decide) _).tr (FE.oft (by decide) _)).tr (FE.oft (by decide) _)).tr (FE.oft (by decide) _)).tr (FE.ofi (by decide) _)
    refine ⟨fe, by rw [← hN]; simp only [y_ii, y_ia, y_il, y_ir, y_ai, y_aa, y_al, y_ar, y_li, y_la, y_ll, y_lr, y_ri, y_ra, y_rl, y_rr, and_true, true_and, and_false, false_and, and_self, if_true, if_false, Nat.reduceEqDiff, reduceCtorEq, or_false, false_or, or_true, true_or], rfl, ⟨?_, ?_, ?_, ?_, ?_, fun i a1 a2 => ?_, fun j hj => ?_⟩, by rw [← hN]; simp only [y_ii, y_ia, y_il, y_ir, y_ai, y_aa, y_al, y_ar, y_li, y_la, y_ll, y_lr, y_ri, y_ra, y_rl, y_rr, and_true, true_and, and_false, false_and, and_self, if_true, if_false, Nat.reduceEqDiff, reduceCtorEq, or_false, false_or, or_true, true_or]⟩
    · rw [← hN]
      simp only [y_ii, y_ia, y_il, y_ir, y_ai, y_aa, y_al, y_ar, y_li, y_la, y_ll, y_lr, y_ri, y_ra, y_rl, y_rr, and_true, true_and, and_false, false_and, and_self, if_true, if_false, Nat.reduceEqDiff, reduceCtorEq, or_false, false_or, or_true, true_or]
      exact h2
    · rw [← hN]
      simp only [y_ii, y_ia, y_il, y_ir, y_ai, y_aa, y_al, y_ar, y_li, y_la, y_ll, y_lr, y_ri, y_ra, y_rl, y_rr, and_true, true_and, and_false, false_and, and_self, if_true, if_false, Nat.reduceEqDiff, reduceCtorEq, or_false, false_or, or_true, true_or]
      rfl
    · rw [← hN]
      simp only [y_ii, y_ia, y_il, y_ir, y_ai, y_aa, y_al, y_ar, y_li, y_la, y_ll, y_lr, y_ri, y_ra, y_rl, y_rr, and_true, true_and, and_false, false_and, and_self, if_true, if_false, Nat.reduceEqDiff, reduceCtorEq, or_false, false_or, or_true, true_or]
      rfl
    · rw [← hN]
      simp only [y_ii, y_ia, y_il, y_ir, y_ai, y_aa, y_al, y_ar, y_li, y_la, y_ll, y_lr, y_ri, y_ra, y_rl, y_rr, and_true, true_and, and_false, false_and, and_self, if_true, if_false, Nat.reduceEqDiff, reduceCtorEq, or_false, false_or, or_true, true_or]
      rfl
    · rw [← hN]
      simp only [y_ii, y_ia, y_il, y_ir, y_ai, y_aa, y_al, y_ar, y_li, y_la, y_ll, y_lr, y_ri, y_ra, y_rl, y_rr, and_true, true_and, and_false, false_and, and_self, if_true, if_false, Nat.reduceEqDiff, reduceCtorEq, or_false, false_or, or_true, true_or]
      exact h3
    · obtain ⟨g1, g2, g3, g4, g5⟩ := h4 i a1 a2
      rw [← hN]
      simp only [y_ii, y_ia, y_il, y_ir, y_ai, y_aa, y_al, y_ar, y_li, y_la, y_ll, y_lr, y_ri, y_ra, y_rl, y_rr, and_true, true_and, and_false, false_and, and_self, if_true, if_false, Nat.reduceEqDiff, reduceCtorEq, or_false, false_or, or_true, true_or]
      exact ⟨g1, g2, g3, g4, g5⟩
    · rw [← hN]
      simp only [y_ii, y_ia, y_il, y_ir, y_ai, y_aa, y_al, y_ar, y_li, y_la, y_ll, y_lr, y_ri, y_ra, y_rl, y_rr, and_true, true_and, and_false, false_and, and_self, if_true, if_false, Nat.reduceEqDiff, reduceCtorEq, or_false, false_or, or_true, true_or]
      exact steps j hj
  have es : nI (t + 1) - nI 1 = nI t := by
    rw [pk_sub (show 1 ≤ t + 1 by omega)]
    rfl
  have l3 : ∀ N3, p_a (p_a (p_i M 1000 4 (nI 0)) 1000 11 t (nI H.1.1)) 1000 12 t (nI H.1.2.1) = N3 → fX12_code_b274 N3 (nI H.1.2.2) (nI t) = some (nI t, p_i (p_a N3 1000 13 t (nI H.1.2.2)) 1000 5 (nI (t + 1))) := fun N3 h => by
    have f5 : q_i N3 1000 5 = nI t := by
      rw [← h]
      simp only [y_ii, y_ia, y_il, y_ir, y_ai, y_aa, y_al, y_ar, y_li, y_la, y_ll, y_lr, y_ri, y_ra, y_rl, y_rr, and_true, true_and, and_false, false_and, and_self, if_true, if_false, Nat.reduceEqDiff, reduceCtorEq, or_false, false_or, or_true, true_or]
      exact e5
    unfold fX12_code_b274
    simp (disch := omega) only [y_lit, y_lt_T, y_lt_F, y_le_T, y_le_F, y_eq_T, y_eq_F, y_in_T, y_cl, ↓reduceIte, y_bs, y_bvs, y_os, y_on, y_t, ne_eq, not_true_eq_false, not_false_eq_true, pk_mul, nI_add, y_ii, y_ia, y_il, y_ir, y_ai, y_aa, y_al, y_ar, y_li, y_la, y_ll, y_lr, y_ri, y_ra, y_rl, y_rr, and_true, true_and, and_false, false_and, and_self, if_true, if_false, Nat.reduceEqDiff, reduceCtorEq, or_false, false_or, or_true, true_or, f5, es]
  have l2 : ∀ N2, p_a (p_i M 1000 4 (nI 0)) 1000 11 t (nI H.1.1) = N2 → fX12_code_b240 N2 (nI H.1.2.1) (nI t) = some (nI t, p_i (p_a (p_a N2 1000 12 t (nI H.1.2.1)) 1000 13 t (nI H.1.2.2)) 1000 5 (nI (t + 1))) := fun N2 h => by
    have g17 : q_i (p_a N2 1000 12 t (nI H.1.2.1)) 1000 17 = nI t := by
      rw [← h]
      simp only [y_ii, y_ia, y_il, y_ir, y_ai, y_aa, y_al, y_ar, y_li, y_la, y_ll, y_lr, y_ri, y_ra, y_rl, y_rr, and_true, true_and, and_false, false_and, and_self, if_true, if_false, Nat.reduceEqDiff, reduceCtorEq, or_false, false_or, or_true, true_or]
      exact e17
    have g13 : q_a (p_a N2 1000 12 t (nI H.1.2.1)) 1000 13 t = q_a M 1000 13 t := by
      rw [← h]
      simp only [y_ii, y_ia, y_il, y_ir, y_ai, y_aa, y_al, y_ar, y_li, y_la, y_ll, y_lr, y_ri, y_ra, y_rl, y_rr, and_true, true_and, and_false, false_and, and_self, if_true, if_false, Nat.reduceEqDiff, reduceCtorEq, or_false, false_or, or_true, true_or]
    have l := l3 _ (by rw [h])
    unfold fX12_code_b240
    rw [if_pos (q_inN (show t < 6 from ht) (by decide)), nI_cl (by omega), q_t, g17]
    simp (disch := omega) only [y_cl, y_in_T, ↓reduceIte, g13]
    by_cases c : (0 : Int32) ≤ q_a M 1000 13 t
    · rw [if_pos c] at v3 ⊢
      rw [v3]
      exact l
    · rw [if_neg c] at v3 ⊢
      rw [← l, ← v3]
      rfl
  have l1 : fX12_code_b205 (p_i M 1000 4 (nI 0)) (nI H.1.1) (nI t) = some (nI t, p_i (p_a (p_a (p_a (p_i M 1000 4 (nI 0)) 1000 11 t (nI H.1.1)) 1000 12 t (nI H.1.2.1)) 1000 13 t (nI H.1.2.2)) 1000 5 (nI (t + 1))) := by
    have g17 : q_i (p_a (p_i M 1000 4 (nI 0)) 1000 11 t (nI H.1.1)) 1000 17 = nI t := by
      simp only [y_ii, y_ia, y_il, y_ir, y_ai, y_aa, y_al, y_ar, y_li, y_la, y_ll, y_lr, y_ri, y_ra, y_rl, y_rr, and_true, true_and, and_false, false_and, and_self, if_true, if_false, Nat.reduceEqDiff, reduceCtorEq, or_false, false_or, or_true, true_or]
      exact e17
    have g12 : q_a (p_a (p_i M 1000 4 (nI 0)) 1000 11 t (nI H.1.1)) 1000 12 t = q_a M 1000 12 t := by
      simp only [y_ii, y_ia, y_il, y_ir, y_ai, y_aa, y_al, y_ar, y_li, y_la, y_ll, y_lr, y_ri, y_ra, y_rl, y_rr, and_true, true_and, and_false, false_and, and_self, if_true, if_false, Nat.reduceEqDiff, reduceCtorEq, or_false, false_or, or_true, true_or]
    have l := l2 _ rfl
    unfold fX12_code_b205
    rw [if_pos (q_inN (show t < 6 from ht) (by decide)), nI_cl (by omega), q_t, g17]
    simp (disch := omega) only [y_cl, y_in_T, ↓reduceIte, g12]
    by_cases c : (0 : Int32) ≤ q_a M 1000 12 t
    · rw [if_pos c] at v2 ⊢
      rw [v2]
      exact l
    · rw [if_neg c] at v2 ⊢
      rw [← l, ← v2]
      rfl
  have g15 : q_i (p_i M 1000 4 (nI 0)) 1000 15 = nI 0 := by
    simp only [y_ii, y_ia, y_il, y_ir, y_ai, y_aa, y_al, y_ar, y_li, y_la, y_ll, y_lr, y_ri, y_ra, y_rl, y_rr, and_true, true_and, and_false, false_and, and_self, if_true, if_false, Nat.reduceEqDiff, reduceCtorEq, or_false, false_or, or_true, true_or]
    exact e15
  have g17 : q_i (p_i M 1000 4 (nI 0)) 1000 17 = nI t := by
    simp only [y_ii, y_ia, y_il, y_ir, y_ai, y_aa, y_al, y_ar, y_li, y_la, y_ll, y_lr, y_ri, y_ra, y_rl, y_rr, and_true, true_and, and_false, false_and, and_self, if_true, if_false, Nat.reduceEqDiff, reduceCtorEq, or_false, false_or, or_true, true_or]
    exact e17
  have g11 : q_a (p_i M 1000 4 (nI 0)) 1000 11 t = q_a M 1000 11 t := by
    simp only [y_ii, y_ia, y_il, y_ir, y_ai, y_aa, y_al, y_ar, y_li, y_la, y_ll, y_lr, y_ri, y_ra, y_rl, y_rr, and_true, true_and, and_false, false_and, and_self, if_true, if_false, Nat.reduceEqDiff, reduceCtorEq, or_false, false_or, or_true, true_or]
  unfold fX12_code_b152
  rw [show p_i M 1000 4 (0 : Int32) = p_i M 1000 4 (nI 0) from rfl, q_t, g15, if_pos (by decide)]
  simp (disch := omega) only [y_cl, y_in_T, ↓reduceIte, g17, g11]
  by_cases c : (0 : Int32) ≤ q_a M 1000 11 t
  · rw [if_pos c] at v1
    rw [if_pos c, v1, l1]
    exact qW_s (fin _ rfl)
  · rw [if_neg c] at v1
    rw [if_neg c]
    show qW (fX12_code_b205 (p_i M 1000 4 (nI 0)) (nI 1) (nI t)) _
    rw [v1, l1]
    exact qW_s (fin _ rfl)
theorem sX12_codeE {e : Nat} (h15 : q_i M 1000 15 = nI e) (he : 0 < e ∧ e < 4000) (e5 : q_i M 1000 5 = nI t) : qW (fX12_code_b152 M) (PCo t M (.error e)) := by
  have g15 : q_i (p_i M 1000 4 (nI 0)) 1000 15 = nI e := by
    simp only [y_ii, y_ia, y_il, y_ir, y_ai, y_aa, y_al, y_ar, y_li, y_la, y_ll, y_lr, y_ri, y_ra, y_rl, y_rr, and_true, true_and, and_false, false_and, and_self, if_true, if_false, Nat.reduceEqDiff, reduceCtorEq, or_false, false_or, or_true, true_or]
    exact h15
  unfold fX12_code_b152
  rw [show p_i M 1000 4 (0 : Int32) = p_i M 1000 4 (nI 0) from rfl, q_t, g15, if_neg (show ¬ nI e ≤ (0 : Int32) from (show ¬ nI e ≤ nI 0 from nI_ge he.1 (by omega)))]
  refine qW_s ⟨FE.ofi (by decide) _, by simp only [y_ii, y_ia, y_il, y_ir, y_ai, y_aa, y_al, y_ar, y_li, y_la, y_ll, y_lr, y_ri, y_ra, y_rl, y_rr, and_true, true_and, and_false, false_and, and_self, if_true, if_false, Nat.reduceEqDiff, reduceCtorEq, or_false, false_or, or_true, true_or], rfl, ?_⟩
  simp only [y_ii, y_ia, y_il, y_ir, y_ai, y_aa, y_al, y_ar, y_li, y_la, y_ll, y_lr, y_ri, y_ra, y_rl, y_rr, and_true, true_and, and_false, false_and, and_self, if_true, if_false, Nat.reduceEqDiff, reduceCtorEq, or_false, false_or, or_true, true_or]
  exact e5
theorem PCo.tr {M1 : QM} {x : Except Nat CD} {v : Int32} (k : FE t M M1) (h : PCo t M1 x v N) : PCo t M x v N := ⟨k.tr h.1, h.2⟩
theorem kd_59 (ok : tp_ok n b) : chI b n (z_p s) = nI 59 ↔ p_kd b n s = 315 := (chI_eq ok (c := 59) (by decide)).trans (kd_sg (c := 59) (by decide)).symm
theorem sX12_code_b99 (ok : tp_ok n b) (ht : t < 6) : ∀ (f q : Nat) (M : QM) (r : Nat) (H : HD) (s : PZ), h_n H + f = 15 → f < q → h_n H ≤ 14 → R2H M b n t r H s → BZ n 0 s → c_ok (mkC H s) → HDf H → q_i M 1000 5 = nI t → (∀ e, p_tl b n f H s = .error e → 0 < e ∧ e < 4000) → qW (fX12_code_b99 q M (nI 1)) (PCo t M (p_tl b n f H s)) := by
  have hn := ok.1
  intro f
  induction f with
  | zero => intro q M r H s h1 h2 h3; omega
  | succ f ih =>
    intro q M r H s h1 h2 h3 R hz hC hd e5 he
    obtain ⟨q, rfl⟩ : ∃ p, q = p + 1 := ⟨q - 1, by omega⟩
    obtain ⟨N, e, R2, k⟩ := sX12_see R.1 ok
    have hr := R2.2.2.2.1
    have RH := R.ofN k R2
    have kk : FE t M N := FE.ofC (FC.ofN k)
    have f5 : q_i N 1000 5 = nI t := (k.i (not_SN (by decide))).trans e5
    have hm : H.1.1 < 16 ∧ H.1.2.1 < 9 ∧ H.1.2.2 < 16 := ⟨hC.1, hC.2.2.1, hC.2.2.2.1⟩
    rw [fX12_code_b99, if_neg (show ¬ nI 1 = (0 : Int32) by decide), e, q_b_s]
    unfold p_tl at he ⊢
    by_cases c5 : p_kd b n s = 315
    · have g := kk_nx (b := b) (n := n) (s := s) (by omega)
      rw [if_neg (show ¬ p_kd b n s = 31 by omega), if_pos c5] at he ⊢
      rw [if_neg (show ¬ chI b n (z_p s) ≠ (59 : Int32) from fun z => z ((kd_59 ok).mpr c5)), R2.2.2.1, show nI (z_p s) + (1 : Int32) = nI (z_p s + 1) from nI_add _ 1, q_t]
      obtain ⟨R3, k3⟩ := R2.sign (by omega) (by omega)
      have RH3 : R2H (p_i N 1000 14 (nI (z_p s + 1))) b n t (z_p s + 1) H (p_nx b n s) := RH.mv k3 rfl R3
      have hz3 : BZ n 0 (p_nx b n s) := (hz.nx (b := b) (k := 1) g.1 g.2).le (Nat.zero_le _)
      obtain ⟨v, N4, a1, k4, a2⟩ := sX12_clauseHere RH3 ok ht hz3 h3 hm
      have kk4 : FE t M N4 := (kk.tr (FE.ofC (FC.ofN k3))).tr (FE.ofC k4)
      have g5 : q_i N4 1000 5 = nI t := (k4.1.i (fun z => by have := z.2; omega)).trans ((k3.i (not_SN (by decide))).trans f5)
      rw [a1, q_b_s]
      rw [p_lp_tl] at he ⊢
      cases hx : x_g (p_hd b n H (p_nx b n s)) (p_ts b n) with
      | error e4 =>
        rw [hx] at a2 he
        obtain ⟨rfl, a2⟩ := a2
        obtain ⟨q, rfl⟩ : ∃ p, q = p + 1 := ⟨q - 1, by omega⟩
        rw [fX12_code_b99, if_pos (by decide)]
        unfold fX12_code_b130
        rw [if_pos (by decide)]
        obtain ⟨v5, N5, b1, b2⟩ := sX12_codeE a2 (he e4 rfl) g5
        exact ⟨v5, N5, b1, PCo.tr kk4 b2⟩
      | ok y =>
        rw [hx] at a2 he
        obtain ⟨rfl, r4, RH4⟩ := a2
        obtain ⟨x, x1, x2⟩ := x_g_ok hx
        obtain ⟨s2, x3, x4⟩ := x_g_ok x2
        obtain ⟨H1, T, s1⟩ := x
        have I := p_hd_in x1
        have hn1 := I.num
        have h14 := I.1
        have hz1 := I.bz hz3
        have ey : y = (H1, s2) := (Except.ok.inj x4).symm
        subst ey
        have stp : (T = false ∧ s2 = s1 ∨ T = true ∧ TY n s1 s2 [] [true]) ∧ BZ n 0 s2 := by
          cases T with
          | false =>
            have x3 : Except.ok s1 = Except.ok s2 := x3
            cases x3
            exact ⟨Or.inl ⟨rfl, rfl⟩, hz1⟩
          | true =>
            have x3 : p_tst b n (p_fact b n 14 0) s1 = .ok s2 := x3
            have TT := (p_jn_ty (b := b) (Or.inl ⟨rfl, rfl⟩) (p_jn_ty (b := b) (Or.inr ⟨rfl, rfl⟩) (p_fact_ty 14 0)) s1 s2 [] x3 (Nat.zero_le _)).1
            exact ⟨Or.inr ⟨rfl, TT⟩, hz1.ty TT⟩
        have hC1 := I.ok (s2 := s2) hC stp.1 (Nat.le_of_lt (stp.2.z hn))
        obtain ⟨v5, N5, b1, b2⟩ := ih q N4 r4 H1 s2 (by omega) (by omega) (by omega) RH4 stp.2 hC1 (I.df hd) g5 he
        exact ⟨v5, N5, b1, PCo.tr kk4 b2⟩
    · rw [if_pos (show chI b n (z_p s) ≠ (59 : Int32) from fun z => c5 ((kd_59 ok).mp z))]
      unfold fX12_code_b130
      rw [if_neg (by decide), sX12_see2 R2 ok, q_b_s]
      by_cases c1 : p_kd b n s = 31
      · have hp : n ≤ z_p s := kd_end.mp c1
        rw [if_pos c1, chI_n (by omega), if_pos (by decide)]
        obtain ⟨v5, N5, b1, b2⟩ := R2H.fin RH hd ht hm f5
        exact ⟨v5, N5, b1, PCo.tr kk b2⟩
      · have hp : z_p s < n := p_kd_on c1
        rw [if_neg c1, if_neg c5] at he ⊢
        have hb := ok.2 _ hp
        rw [chI_y hp, if_neg (fun z => by rw [show nI (b (z_p s)) = (-1 : Int32) ↔ nI (b (z_p s)) = -nI 1 from Iff.rfl, m1_eqG (by omega)] at z; exact z), R2.2.2.1, show fX12_fails N (0 : Int32) (nI (z_p s)) = _ from sX12_fails R2.2.2.2.2.2.1 (k := 0) (by decide) (by omega), q_b_s]
        obtain ⟨v5, N5, b1, b2⟩ := sX12_codeE (M := p_i N 1000 15 (nI (fl 0 (z_p s)))) (t := t) (e := fl 0 (z_p s)) (by simp only [y_ii, y_ia, y_il, y_ir, y_ai, y_aa, y_al, y_ar, y_li, y_la, y_ll, y_lr, y_ri, y_ra, y_rl, y_rr, and_true, true_and, and_false, false_and, and_self, if_true, if_false, Nat.reduceEqDiff, reduceCtorEq, or_false, false_or, or_true, true_or]) (he _ rfl) (by simp only [y_ii, y_ia, y_il, y_ir, y_ai, y_aa, y_al, y_ar, y_li, y_la, y_ll, y_lr, y_ri, y_ra, y_rl, y_rr, and_true, true_and, and_false, false_and, and_self, if_true, if_false, Nat.reduceEqDiff, reduceCtorEq, or_false, false_or, or_true, true_or]; exact f5)
        exact ⟨v5, N5, b1, PCo.tr (kk.tr (FE.ofi (by decide) _)) b2⟩
theorem sX12_code (T : TP2 M n b) (ok : tp_ok n b) (e5 : q_i M 1000 5 = nI t) (ht : t < 6) (he : ∀ e, p_code b n = .error e → 0 < e ∧ e < 4000) : qW (fX12_code M) (PCo t M (p_code b n)) := by
  have hn := ok.1
  unfold fX12_code
  simp (disch := omega) only [y_lit, y_lt_T, y_lt_F, y_le_T, y_le_F, y_eq_T, y_eq_F, y_in_T, y_cl, ↓reduceIte, y_bs, y_bvs, y_os, y_on, y_t, ne_eq, not_true_eq_false, not_false_eq_true, pk_mul, nI_add, y_ii, y_ia, y_il, y_ir, y_ai, y_aa, y_al, y_ar, y_li, y_la, y_ll, y_lr, y_ri, y_ra, y_rl, y_rr, and_true, true_and, and_false, false_and, and_self, if_true, if_false, Nat.reduceEqDiff, reduceCtorEq, or_false, false_or, or_true, true_or, e5]
  generalize hN : p_i (p_i (p_i _ 1000 14 _) 1000 15 _) 1000 18 _ = N
  have fe : FE t M N := by
    rw [← hN]
    exact (((((((((FE.ofi (by decide) _).tr (FE.of7 _)).tr (FE.oft (by decide) _)).tr (FE.oft (by decide) _)).tr (FE.oft (by decide) _)).tr (FE.oft (by decide) _)).tr (FE.oft (by decide) _)).tr (FE.ofi (by decide) _)).tr (FE.ofi (by decide) _)).tr (FE.ofi (by decide) _)
  have f5 : q_i N 1000 5 = nI t := by
    rw [← hN]
    simp only [y_ii, y_ia, y_il, y_ir, y_ai, y_aa, y_al, y_ar, y_li, y_la, y_ll, y_lr, y_ri, y_ra, y_rl, y_rr, and_true, true_and, and_false, false_and, and_self, if_true, if_false, Nat.reduceEqDiff, reduceCtorEq, or_false, false_or, or_true, true_or]
    exact e5
  have R : R2H N b n t 0 HD0 (PZ0 b n) := by
    refine ⟨⟨⟨?_, fun i hi => ?_⟩, ?_, ?_, Nat.zero_le _, rfl, ?_, ?_, ?_, fun j hj => absurd hj (Nat.not_lt_zero _)⟩, ?_, ?_, fun i hi => absurd hi (Nat.not_lt_zero _), ?_, ?_, ?_⟩
    · rw [← hN]
      simp only [y_ii, y_ia, y_il, y_ir, y_ai, y_aa, y_al, y_ar, y_li, y_la, y_ll, y_lr, y_ri, y_ra, y_rl, y_rr, and_true, true_and, and_false, false_and, and_self, if_true, if_false, Nat.reduceEqDiff, reduceCtorEq, or_false, false_or, or_true, true_or]
      exact T.1
    · rw [← hN]
      simp only [y_ii, y_ia, y_il, y_ir, y_ai, y_aa, y_al, y_ar, y_li, y_la, y_ll, y_lr, y_ri, y_ra, y_rl, y_rr, and_true, true_and, and_false, false_and, and_self, if_true, if_false, Nat.reduceEqDiff, reduceCtorEq, or_false, false_or, or_true, true_or]
      exact T.2 i hi
    all_goals
      rw [← hN]
      simp only [y_ii, y_ia, y_il, y_ir, y_ai, y_aa, y_al, y_ar, y_li, y_la, y_ll, y_lr, y_ri, y_ra, y_rl, y_rr, and_true, true_and, and_false, false_and, and_self, if_true, if_false, Nat.reduceEqDiff, reduceCtorEq, or_false, false_or, or_true, true_or]
      try rfl
  have hz : BZ n 0 (PZ0 b n) := ⟨Nat.zero_le _, (rn_le (P := isS) (b := b) (Nat.zero_le n)).2, Nat.zero_le _⟩
  obtain ⟨v, N4, a1, k4, a2⟩ := sX12_clauseHere R ok ht hz (by decide) (by decide)
  have kk4 : FE t M N4 := fe.tr (FE.ofC k4)
  have g5 : q_i N4 1000 5 = nI t := (k4.1.i (fun z => by have := z.2; omega)).trans f5
  rw [a1, q_b_s]
  unfold p_code at he ⊢
  rw [p_lp_tl] at he ⊢
  cases hx : x_g (p_hd b n HD0 (PZ0 b n)) (p_ts b n) with
  | error e4 =>
    rw [hx] at a2 he
    obtain ⟨rfl, a2⟩ := a2
    obtain ⟨q, hq⟩ : ∃ q, q_F = q + 1 := ⟨99999, rfl⟩
    rw [hq, fX12_code_b99, if_pos (by decide)]
    unfold fX12_code_b130
    rw [if_pos (by decide)]
    obtain ⟨v5, N5, b1, b2⟩ := sX12_codeE a2 (he e4 rfl) g5
    exact ⟨v5, N5, b1, PCo.tr kk4 b2⟩
  | ok y =>
    rw [hx] at a2 he
    obtain ⟨rfl, r4, RH4⟩ := a2
    obtain ⟨x, x1, x2⟩ := x_g_ok hx
    obtain ⟨s2, x3, x4⟩ := x_g_ok x2
    obtain ⟨H1, T1, s1⟩ := x
    have I := p_hd_in x1
    have hn1 := I.num
    have h0 : h_n HD0 = 0 := rfl
    have hz1 := I.bz hz
    have ey : y = (H1, s2) := (Except.ok.inj x4).symm
    subst ey
    have stp : (T1 = false ∧ s2 = s1 ∨ T1 = true ∧ TY n s1 s2 [] [true]) ∧ BZ n 0 s2 := by
      cases T1 with
      | false =>
        have x3 : Except.ok s1 = Except.ok s2 := x3
        cases x3
        exact ⟨Or.inl ⟨rfl, rfl⟩, hz1⟩
      | true =>
        have x3 : p_tst b n (p_fact b n 14 0) s1 = .ok s2 := x3
        have TT := (p_jn_ty (b := b) (Or.inl ⟨rfl, rfl⟩) (p_jn_ty (b := b) (Or.inr ⟨rfl, rfl⟩) (p_fact_ty 14 0)) s1 s2 [] x3 (Nat.zero_le _)).1
        exact ⟨Or.inr ⟨rfl, TT⟩, hz1.ty TT⟩
    have hC1 := I.ok (s2 := s2) (c_ok0 b n) stp.1 (Nat.le_of_lt (stp.2.z hn))
    obtain ⟨v5, N5, b1, b2⟩ := sX12_code_b99 ok ht 14 q_F N4 r4 H1 s2 (by omega) (q_Fn (by decide)) (by omega) RH4 stp.2 hC1 (I.df ⟨fun _ => rfl, fun _ => rfl, fun _ => rfl⟩) g5 he
    exact ⟨v5, N5, b1, PCo.tr kk4 b2⟩
end CODE3
