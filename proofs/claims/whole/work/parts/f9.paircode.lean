/-! pair_code -/
theorem KO.add {nc : Nat} {B : BK} {Cs : Nat → CD} (ok : KO nc B Cs) {C : CD} (hC : c_ok C) (h6 : nc < 6) : KO (nc + 1) B (u_f Cs nc C) := by
  obtain ⟨⟨h1, h2, h3, h4⟩, h5, h7, h8⟩ := ok
  refine ⟨⟨h1, h2, fun i hi => ?_, fun q hq => ?_⟩, h6, fun k hk => ?_, fun q hq => ?_⟩
  · obtain ⟨g1, g2, g3, g4, g5⟩ := h3 i hi
    exact ⟨g1, g2, g3, fun c e => Nat.lt_succ_of_lt (g4 c e), g5⟩
  · obtain ⟨g1, g2, g3, g4, g5, g6⟩ := h4 q hq
    exact ⟨g1, g2, g3, Nat.lt_succ_of_lt g4, Nat.lt_succ_of_lt g5, g6⟩
  · by_cases e : k = nc
    · rw [e, u_f_e]
      exact hC
    · rw [u_f_n _ _ e]
      exact h7 k (by omega)
  · obtain ⟨g1, g2, g3, g4, g5, g6⟩ := h4 q hq
    have er : r_h (u_f Cs nc C) (b_r B q) = r_h Cs (b_r B q) := by
      unfold r_h
      rw [u_f_n _ _ (show r_c (b_r B q) 1 ≠ nc by omega), u_f_n _ _ (show r_c (b_r B q) 0 ≠ nc by omega)]
    have g := h8 q hq
    unfold r_wf at g ⊢
    rw [er]
    exact g
theorem RC2.FE {M N : QM} {k t : Nat} {C : CD} (h : RC2 M k C) (hC : c_ok C) (hk : k < t) (F : FE t M N) : RC2 N k C := by
  obtain ⟨h1, h2, h3, h4, h5, h6, h7⟩ := h
  obtain ⟨f1, f2, f3, f4⟩ := F
  have hn : c_n C ≤ 14 := hC.2.2.2.2.1
  have hz : c_z C ≤ 256 := hC.2.2.2.2.2.1
  refine ⟨(f4 10 (by decide) (by decide) k (by omega)).trans h1, (f4 11 (by decide) (by decide) k (by omega)).trans h2, (f4 12 (by decide) (by decide) k (by omega)).trans h3, (f4 13 (by decide) (by decide) k (by omega)).trans h4, (f4 9 (by decide) (by decide) k (by omega)).trans h5, fun i hi hs => ?_, fun j hj => (f2 _ (by omega)).trans (h7 j hj)⟩
  obtain ⟨g1, g2, g3, g4, g5⟩ := h6 i hi hs
  have w := c_w_le C i
  exact ⟨(f3 _ (by omega)).trans g1, (f3 _ (by omega)).trans g2, (f3 _ (by omega)).trans g3, (f3 _ (by omega)).trans g4, (f3 _ (by omega)).trans g5⟩
section PAIRCODE
variable {nc n : Nat} {M1 M2 : QM} {B : BK} {Cs : Nat → CD} {b : Nat → Nat}
theorem pair_code (h1 : K1 M1 nc B Cs) (h2 : K2 M2 nc B Cs) (ok : KO nc B Cs) (t1 : TP1 M1 n b) (t2 : TP2 M2 n b) (tok : tp_ok n b) : ∃ r N1 N2 nc2 Cs2 n2, fX11_code M1 = some (r, N1) ∧ fX12_code M2 = some (r, N2) ∧ K1 N1 nc2 B Cs2 ∧ K2 N2 nc2 B Cs2 ∧ KO nc2 B Cs2 ∧ TP1 N1 n2 b ∧ TP2 N2 n2 b ∧ tp_ok n2 b ∧ (∀ B2, KO nc B2 Cs → KO nc2 B2 Cs2) ∧ kp (fun a j => a < 4 ∨ (10 ≤ a ∧ a < 16)) M1 N1 ∧ kp SEe M2 N2 := by
  have h6 := ok.2.1
  have e10 := h1.2.2
  have e5 := h2.2.2.1
  by_cases c6 : nc = 6
  · subst c6
    refine ⟨-1, M1, M2, 6, Cs, n, ?_, ?_, h1, h2, ok, t1, t2, tok, fun _ h => h, kp.rf, kp.rf⟩
    · unfold fX11_code
      rw [e10, if_neg (by decide)]
    · unfold fX12_code
      rw [e5, if_neg (by decide)]
  · have hn6 : nc < 6 := by omega
    obtain ⟨v, N, a1, k1, a2⟩ := sX5_read (o := 10 + nc) (by omega) tok t1
    have he : ∀ e, p_code b n = .error e → 0 < e ∧ e < 4000 := fun e h => by
      rw [h] at a2
      exact a2.2
    obtain ⟨v2, N2, b1, b2, b3, b4⟩ := sX12_code t2 tok e5 hn6 he
    have f10 : q_i N 0 10 = nI nc := (k1.i (fun z => by unfold SRD at z; omega)).trans e10
    have g10 : q_i (p_i N 1 1 (nI 0)) 0 10 = nI nc := by
      simp only [y_ii, y_ia, y_il, y_ir, y_ai, y_aa, y_al, y_ar, y_li, y_la, y_ll, y_lr, y_ri, y_ra, y_rl, y_rr, and_true, true_and, and_false, false_and, and_self, if_true, if_false, Nat.reduceEqDiff, reduceCtorEq, or_false, false_or, or_true, true_or]
      exact f10
    have eel : el 0 1 nc = 10 + nc := rfl
    have k2 : kp (fun a j => a < 4 ∨ (10 ≤ a ∧ a < 16)) M1 (p_i N 1 1 (nI 0)) := (k1.wd (fun a j z => by unfold SRD at z; omega)).tr (kp_i (by decide))
    have kS : kp (fun a j => a = 3 ∨ a = 2 ∨ a = 1 ∨ a = 10 + nc) M1 (p_i N 1 1 (nI 0)) := (k1.wd (fun a j z => by unfold SRD at z; omega)).tr (kp_i (Or.inr (Or.inr (Or.inl rfl))))
    have rb : RB1 (p_i N 1 1 (nI 0)) 20 B := h1.1.kept kS (by decide) (fun x j z => by omega)
    have rc : ∀ k, k < nc → RC1 (p_i N 1 1 (nI 0)) (10 + k) (Cs k) := fun k hk => (h1.2.1 k hk).keptA kS (fun j z => by omega)
    have rm : RM2 N2 B := h2.1.kept b2.1 (fun j z => by unfold SEe at z; omega)
    have rc2 : ∀ k, k < nc → RC2 N2 k (Cs k) := fun k hk => (h2.2.1 k hk).FE (ok.2.2.1 k hk) hk b2
    have e25 : q_i N2 1000 25 = nI 0 := (b2.1.i (fun z => by unfold SEe at z; omega)).trans h2.2.2.2
    have t0 : tp_ok 0 b := ⟨Nat.zero_le _, fun i hi => absurd hi (Nat.not_lt_zero _)⟩
    have one : fX11_code M1 = if v = (0 : Int32) then some (nI nc, p_i (p_i N 1 1 (nI 0)) 0 10 (nI (nc + 1))) else some ((-2 : Int32) - v, p_i N 1 1 (nI 0)) := by
      have es : nI (nc + 1) - (1 : Int32) = nI nc := by
        show nI (nc + 1) - nI 1 = nI nc
        rw [pk_sub (show 1 ≤ nc + 1 by omega)]
        rfl
      have g10' : q_i (p_i (p_i N 1 1 (nI 0)) 0 10 (nI (nc + 1))) 0 10 = nI (nc + 1) := by simp only [y_ii, y_ia, y_il, y_ir, y_ai, y_aa, y_al, y_ar, y_li, y_la, y_ll, y_lr, y_ri, y_ra, y_rl, y_rr, and_true, true_and, and_false, false_and, and_self, if_true, if_false, Nat.reduceEqDiff, reduceCtorEq, or_false, false_or, or_true, true_or]
      unfold fX11_code
      rw [e10, if_pos (show nI nc < (6 : Int32) from nI_lt (b := 6) hn6 (by decide)), if_pos (q_inN (show nc < 6 from hn6) (by decide)), nI_cl (by omega), eel, a1, q_b_s, show p_i N 1 1 (0 : Int32) = p_i N 1 1 (nI 0) from rfl, q_t, g10, show nI nc + (1 : Int32) = nI (nc + 1) from nI_add _ 1, q_t, g10', es]
    cases hp : p_code b n with
    | error e =>
      rw [hp] at a2 b4
      obtain ⟨rfl, a3, a4⟩ := a2
      obtain ⟨rfl, b5⟩ := b4
      rw [if_neg (show ¬ nI e = (0 : Int32) from fun z => by have := (nI_eq (by omega) (by decide)).mp (show nI e = nI 0 from z); omega)] at one
      exact ⟨_, _, N2, nc, Cs, 0, one, b1, ⟨rb, rc, g10⟩, ⟨rm, rc2, b5, e25⟩, ok, ⟨by simp only [y_ii, y_ia, y_il, y_ir, y_ai, y_aa, y_al, y_ar, y_li, y_la, y_ll, y_lr, y_ri, y_ra, y_rl, y_rr, and_true, true_and, and_false, false_and, and_self, if_true, if_false, Nat.reduceEqDiff, reduceCtorEq, or_false, false_or, or_true, true_or], fun i hi => absurd hi (Nat.not_lt_zero _)⟩, ⟨b3, fun i hi => absurd hi (Nat.not_lt_zero _)⟩, t0, fun _ h => h, k2, b2.1⟩
    | ok C =>
      rw [hp] at a2 b4
      obtain ⟨rfl, a3, a4⟩ := a2
      obtain ⟨rfl, b5, b6⟩ := b4
      rw [if_pos (show nI 0 = (0 : Int32) from rfl)] at one
      have k3 : kp (fun a j => a = 0 ∧ j = 10) (p_i N 1 1 (nI 0)) (p_i (p_i N 1 1 (nI 0)) 0 10 (nI (nc + 1))) := kp_i ⟨rfl, rfl⟩
      have a3' : RC1 (p_i N 1 1 (nI 0)) (10 + nc) C := a3.keptA (kp_i (S := fun a j => a = 1 ∧ j = 1) ⟨rfl, rfl⟩) (fun j z => by omega)
      refine ⟨_, _, N2, nc + 1, u_f Cs nc C, 0, one, b1, ⟨rb.kept k3 (by decide) (fun x j z => by omega), fun k hk => ?_, by simp only [y_ii, y_ia, y_il, y_ir, y_ai, y_aa, y_al, y_ar, y_li, y_la, y_ll, y_lr, y_ri, y_ra, y_rl, y_rr, and_true, true_and, and_false, false_and, and_self, if_true, if_false, Nat.reduceEqDiff, reduceCtorEq, or_false, false_or, or_true, true_or]⟩, ⟨rm, fun k hk => ?_, b6, e25⟩, ok.add a4 hn6, ⟨by simp only [y_ii, y_ia, y_il, y_ir, y_ai, y_aa, y_al, y_ar, y_li, y_la, y_ll, y_lr, y_ri, y_ra, y_rl, y_rr, and_true, true_and, and_false, false_and, and_self, if_true, if_false, Nat.reduceEqDiff, reduceCtorEq, or_false, false_or, or_true, true_or], fun i hi => absurd hi (Nat.not_lt_zero _)⟩, ⟨b3, fun i hi => absurd hi (Nat.not_lt_zero _)⟩, t0, fun _ h => h.add a4 hn6, k2.tr (k3.wd (fun a j z => by omega)), b2.1⟩
      · by_cases e : k = nc
        · rw [e, u_f_e]
          exact a3'.keptA k3 (fun j z => by omega)
        · rw [u_f_n _ _ e]
          exact (rc k (by omega)).keptA k3 (fun j z => by omega)
      · by_cases e : k = nc
        · rw [e, u_f_e]
          exact b5
        · rw [u_f_n _ _ e]
          exact rc2 k (by omega)
end PAIRCODE
