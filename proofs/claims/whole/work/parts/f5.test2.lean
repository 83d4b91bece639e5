/-! the reference's test: closes, fact, test -/
section TEST2
variable {M N : QM} {b : Nat → Nat} {n t r : Nat} {s : PZ} {st : List Nat}
theorem kd_93 (ok : tp_ok n b) : chI b n (z_p s) = nI 93 ↔ p_kd b n s = 349 := (chI_eq ok (c := 93) (by decide)).trans (kd_sg (c := 93) (by decide)).symm
theorem sX12_closes_b5 (ok : tp_ok n b) (ht : t < 6) : ∀ (m q : Nat) (M : QM) (r : Nat) (st : List Nat) (s : PZ), n - z_p s < m → m ≤ q → RD M b n t r s → OS M st → IV n 0 0 (st, s) → qV (fX12_closes_b5 q M) (fun N => FQ SWw t M N ∧ ∃ r2 st2 s2, RD N b n t r2 s2 ∧ OS N st2 ∧ IV n 0 0 (st2, s2) ∧ z_p s ≤ z_p s2 ∧ aZ b n false (st, s) = aZ b n false (st2, s2) ∧ ¬ (p_kd b n s2 = 349 ∧ i91 st2 = true)) := by
  have hn := ok.1
  intro m
  induction m with
  | zero => intro q M r st s h; omega
  | succ m ih =>
    intro q M r st s h1 h2 R O I
    obtain ⟨q, rfl⟩ : ∃ p, q = p + 1 := ⟨q - 1, by omega⟩
    obtain ⟨N, e, R2, k⟩ := sX12_see R ok
    have O2 := O.ofN k
    have k1 : FQ SWw t M N := FQ.of k SN_SWw (not_SN (by decide))
    have Il : st.length + 0 ≤ z_p s := I.2.2.2.1
    have Ip : z_p s ≤ n := I.2.1
    rw [fX12_closes_b5, e, q_b_s]
    by_cases c : p_kd b n s = 349
    · rw [if_neg (show ¬ chI b n (z_p s) ≠ (93 : Int32) from fun z => z ((kd_93 ok).mpr c)), sX12_isInside O2 I.2.2.2.2 (by omega), q_b_s]
      cases c91 : i91 st with
      | false =>
        rw [if_pos (by decide)]
        exact qV_s ⟨k1, z_p s, st, s, R2, O2, I, Nat.le_refl _, rfl, fun z => by rw [c91] at z; cases z.2⟩
      | true =>
        obtain ⟨N3, a1, k3, R3, O3⟩ := sX12_settles ok ht (k := 1) (by decide) (by decide) R2 O2 I
        have I3 := IV.stlz (k := 1) (by decide) I
        have e91 := stl_91 (s := s) I.2.2.2.2 c91
        have ep := stl_p 1 st s
        rw [if_neg (by decide), show fX12_settles N (1 : Int32) = some N3 from a1, q_bv_s]
        have eq1 : aZ b n false (st, s) = aZ b n false (stl 3 (stl 1 st s).1.tail (p_nx b n (stl 1 st s).2)) := by
          rw [aZ_f hn]
          unfold aB
          rw [if_pos (show p_kd b n (st, s).2 = 349 ∧ i91 (st, s).1 = true from ⟨c, c91⟩)]
        rw [eq1]
        rw [show stl 1 st s = ((stl 1 st s).1, (stl 1 st s).2) from rfl] at I3
        generalize (stl 1 st s).1 = st1 at *
        generalize (stl 1 st s).2 = s1 at *
        cases st1 with
        | nil => cases e91
        | cons o tl =>
          cases e91
          show qV _ (fun N => FQ SWw t M N ∧ ∃ r2 st2 s2, RD N b n t r2 s2 ∧ OS N st2 ∧ IV n 0 0 (st2, s2) ∧ z_p s ≤ z_p s2 ∧ aZ b n false (stl 3 tl (p_nx b n s1)) = aZ b n false (st2, s2) ∧ ¬ (p_kd b n s2 = 349 ∧ i91 st2 = true))
          obtain ⟨o1, o2, o3, o4⟩ := O3
          have o1 : q_i N3 1000 21 = nI (tl.length + 1) := o1
          have o2 : q_i N3 1000 19 = nI (dp tl + 1) := o2
          have dl := dp_len tl
          have Il3 : tl.length + 1 + 0 ≤ z_p s1 := I3.2.2.2.1
          have kd1 : p_kd b n s1 = 349 := by
            show kd b n (z_p s1) = 349
            rw [ep]
            exact c
          have R3 : RD N3 b n t (z_p s1) s1 := by rw [ep]; exact R3
          have e14 := R3.2.2.1
          have g := nx_b (b := b) (p_kd_on (b := b) (n := n) (s := s1) (by omega))
          have g19 : q_i (p_i N3 1000 21 (nI tl.length)) 1000 19 = nI (dp tl + 1) := by
            simp only [y_ii, y_ia, y_il, y_ir, y_ai, y_aa, y_al, y_ar, y_li, y_la, y_ll, y_lr, y_ri, y_ra, y_rl, y_rr, and_true, true_and, and_false, false_and, and_self, if_true, if_false, Nat.reduceEqDiff, reduceCtorEq, or_false, false_or, or_true, true_or]
            exact o2
          have g14 : q_i (p_i (p_i N3 1000 21 (nI tl.length)) 1000 19 (nI (dp tl))) 1000 14 = nI (z_p s1) := by
            simp only [y_ii, y_ia, y_il, y_ir, y_ai, y_aa, y_al, y_ar, y_li, y_la, y_ll, y_lr, y_ri, y_ra, y_rl, y_rr, and_true, true_and, and_false, false_and, and_self, if_true, if_false, Nat.reduceEqDiff, reduceCtorEq, or_false, false_or, or_true, true_or]
            exact e14
          rw [o1, show nI (tl.length + 1) - (1 : Int32) = nI (tl.length + 1 - 1) from (show nI (tl.length + 1) - nI 1 = nI (tl.length + 1 - 1) from pk_sub (by omega)), Nat.add_sub_cancel, q_t, g19, show nI (dp tl + 1) - (1 : Int32) = nI (dp tl + 1 - 1) from (show nI (dp tl + 1) - nI 1 = nI (dp tl + 1 - 1) from pk_sub (by omega)), Nat.add_sub_cancel, q_t, g14, show nI (z_p s1) + (1 : Int32) = nI (z_p s1 + 1) from nI_add _ 1, q_t]
          have k4 : kp STk N3 (p_i (p_i N3 1000 21 (nI tl.length)) 1000 19 (nI (dp tl))) := (kp_i ⟨rfl, by decide⟩).tr (kp_i ⟨rfl, by decide⟩)
          have R4 := R3.ofT k4
          have O4 : OS (p_i (p_i N3 1000 21 (nI tl.length)) 1000 19 (nI (dp tl))) tl := ⟨by simp only [y_ii, y_ia, y_il, y_ir, y_ai, y_aa, y_al, y_ar, y_li, y_la, y_ll, y_lr, y_ri, y_ra, y_rl, y_rr, and_true, true_and, and_false, false_and, and_self, if_true, if_false, Nat.reduceEqDiff, reduceCtorEq, or_false, false_or, or_true, true_or], by simp only [y_ii, y_ia, y_il, y_ir, y_ai, y_aa, y_al, y_ar, y_li, y_la, y_ll, y_lr, y_ri, y_ra, y_rl, y_rr, and_true, true_and, and_false, false_and, and_self, if_true, if_false, Nat.reduceEqDiff, reduceCtorEq, or_false, false_or, or_true, true_or], o4.kept (fun c _ => by simp only [y_ii, y_ia, y_il, y_ir, y_ai, y_aa, y_al, y_ar, y_li, y_la, y_ll, y_lr, y_ri, y_ra, y_rl, y_rr, and_true, true_and, and_false, false_and, and_self, if_true, if_false, Nat.reduceEqDiff, reduceCtorEq, or_false, false_or, or_true, true_or])⟩
          generalize p_i (p_i N3 1000 21 (nI tl.length)) 1000 19 (nI (dp tl)) = N4 at *
          obtain ⟨R5, k5⟩ := R4.sign (by omega) (by omega)
          have O5 := O4.ofN k5
          have I5 : IV n 0 0 (tl, p_nx b n s1) := by
            obtain ⟨i1, i2, i3, i4, i5⟩ := I3
            have i1 : 2 * z_z s1 + 2 * (nb91 tl + 0) + 0 ≤ z_p s1 + 2 * z_k s1 := i1
            refine ⟨?_, g.2, i3, ?_, i5.2⟩
            · show 2 * z_z s1 + 2 * nb91 tl + 0 ≤ nx b n (z_p s1) + 2 * z_k s1
              omega
            · show tl.length + 0 ≤ nx b n (z_p s1)
              omega
          obtain ⟨N6, b1, k6, R6, O6⟩ := sX12_settles ok ht (k := 3) (by decide) (by decide) R5 O5 I5
          have I6 := IV.stlz (k := 3) (by decide) I5
          have ep6 := stl_p 3 tl (p_nx b n s1)
          have ep6 : z_p (stl 3 tl (p_nx b n s1)).2 = nx b n (z_p s1) := ep6
          rw [show fX12_settles (p_i N4 1000 14 (nI (z_p s1 + 1))) (3 : Int32) = some N6 from b1, q_bv_s]
          obtain ⟨N7, c1, k7, r7, st7, s7, d1, d2, d3, d4, d5, d6⟩ := ih q N6 (z_p s1 + 1) (stl 3 tl (p_nx b n s1)).1 (stl 3 tl (p_nx b n s1)).2 (by omega) (by omega) R6 O6 I6
          exact ⟨N7, c1, ((((k1.tr k3).tr (FQ.of k4 STk_SWw not_STk6)).tr (FQ.of k5 SN_SWw (not_SN (by decide)))).tr k6).tr k7, r7, st7, s7, d1, d2, d3, by omega, d5, d6⟩
    · rw [if_pos (show chI b n (z_p s) ≠ (93 : Int32) from fun z => c ((kd_93 ok).mp z))]
      exact qV_s ⟨k1, z_p s, st, s, R2, O2, I, Nat.le_refl _, rfl, fun z => c z.1⟩
/-- what a fact leaves -/
def PF (b : Nat → Nat) (n t : Nat) (M : QM) (st : List Nat) (s : PZ) (v : Int32) (N : QM) : Prop := FQ SWw t M N ∧ ((v = nI 1 ∧ ∃ r2 st2 s2, RD N b n t r2 s2 ∧ OS N st2 ∧ IV n 0 0 (st2, s2) ∧ z_p s < z_p s2 ∧ aZ b n true (st, s) = aZ b n false (stl 3 st2 s2)) ∨ (v = nI 0 ∧ ∃ e, aZ b n true (st, s) = .error e ∧ q_i N 1000 15 = nI e))
theorem OS.push (O : OS M st) {o : Nat} (h9 : o = 9 ∨ o = 91) (hl : st.length < 400) : OS (p_i (p_a (p_i M 1000 19 (nI (dp st + 1))) 1000 20 st.length (nI o)) 1000 21 (nI (st.length + 1))) (o :: st) := by
  refine ⟨by simp only [y_ii, y_ia, y_il, y_ir, y_ai, y_aa, y_al, y_ar, y_li, y_la, y_ll, y_lr, y_ri, y_ra, y_rl, y_rr, and_true, true_and, and_false, false_and, and_self, if_true, if_false, Nat.reduceEqDiff, reduceCtorEq, or_false, false_or, or_true, true_or]; rfl, ?_, ?_, O.2.2.kept (fun c hc => ?_)⟩
  · simp only [y_ii, y_ia, y_il, y_ir, y_ai, y_aa, y_al, y_ar, y_li, y_la, y_ll, y_lr, y_ri, y_ra, y_rl, y_rr, and_true, true_and, and_false, false_and, and_self, if_true, if_false, Nat.reduceEqDiff, reduceCtorEq, or_false, false_or, or_true, true_or]
    show nI (dp st + 1) = nI (dp st + if o = 9 ∨ o = 91 then 1 else 0)
    rw [if_pos h9]
  · simp only [y_ii, y_ia, y_il, y_ir, y_ai, y_aa, y_al, y_ar, y_li, y_la, y_ll, y_lr, y_ri, y_ra, y_rl, y_rr, and_true, true_and, and_false, false_and, and_self, if_true, if_false, Nat.reduceEqDiff, reduceCtorEq, or_false, false_or, or_true, true_or]
  · simp only [y_ii, y_ia, y_il, y_ir, y_ai, y_aa, y_al, y_ar, y_li, y_la, y_ll, y_lr, y_ri, y_ra, y_rl, y_rr, and_true, true_and, and_false, false_and, and_self, if_true, if_false, Nat.reduceEqDiff, reduceCtorEq, or_false, false_or, or_true, true_or, show ¬ c = st.length by omega]
theorem sX12_opens (R : RD M b n t (z_p s) s) (O : OS M st) (ok : tp_ok n b) (hl : st.length ≤ z_p s) (hp : z_p s < n) {o : Nat} (h9 : o = 9 ∨ o = 91) : (dp st = 10 ∧ ∃ N, fX12_opens M (nI o) = some (nI 0, N) ∧ q_i N 1000 15 = nI (fl 2 (z_p s)) ∧ FQ SWw t M N) ∨ (dp st ≠ 10 ∧ ∃ N, fX12_opens M (nI o) = some (nI 1, N) ∧ RD N b n t (z_p s) s ∧ OS N (o :: st) ∧ FQ SWw t M N) := by
  have hn := ok.1
  have dl := dp_len st
  unfold fX12_opens
  rw [O.2.1]
  by_cases c : dp st = 10
  · refine Or.inl ⟨c, p_i M 1000 15 (nI (fl 2 (z_p s))), ?_, by simp only [y_ii, y_ia, y_il, y_ir, y_ai, y_aa, y_al, y_ar, y_li, y_la, y_ll, y_lr, y_ri, y_ra, y_rl, y_rr, and_true, true_and, and_false, false_and, and_self, if_true, if_false, Nat.reduceEqDiff, reduceCtorEq, or_false, false_or, or_true, true_or], FQ.of (S := SM) (kp_i ⟨rfl, by decide⟩) SM_SWw not_SM6⟩
    rw [c, if_neg (by decide), R.2.2.1, show fX12_fails M (2 : Int32) (nI (z_p s)) = _ from sX12_fails R.2.2.2.2.2.1 (k := 2) (by decide) (by omega), q_b_s, if_pos (by decide)]
  · have k : kp STk M (p_i (p_a (p_i M 1000 19 (nI (dp st + 1))) 1000 20 st.length (nI o)) 1000 21 (nI (st.length + 1))) := ((kp_i ⟨rfl, by decide⟩).tr (kp_a ⟨rfl, by decide⟩)).tr (kp_i ⟨rfl, by decide⟩)
    refine Or.inr ⟨c, _, ?_, R.ofT k, O.push h9 (by omega), FQ.of k STk_SWw not_STk6⟩
    have f21 : q_i (p_i M 1000 19 (nI (dp st + 1))) 1000 21 = nI st.length := by
      simp only [y_ii, y_ia, y_il, y_ir, y_ai, y_aa, y_al, y_ar, y_li, y_la, y_ll, y_lr, y_ri, y_ra, y_rl, y_rr, and_true, true_and, and_false, false_and, and_self, if_true, if_false, Nat.reduceEqDiff, reduceCtorEq, or_false, false_or, or_true, true_or]
      exact O.1
    have g21 : q_i (p_a (p_i M 1000 19 (nI (dp st + 1))) 1000 20 st.length (nI o)) 1000 21 = nI st.length := by
      simp only [y_ii, y_ia, y_il, y_ir, y_ai, y_aa, y_al, y_ar, y_li, y_la, y_ll, y_lr, y_ri, y_ra, y_rl, y_rr, and_true, true_and, and_false, false_and, and_self, if_true, if_false, Nat.reduceEqDiff, reduceCtorEq, or_false, false_or, or_true, true_or]
      exact O.1
    rw [if_pos (show nI (dp st) ≠ (10 : Int32) from fun z => c ((nI_eq (by omega) (by decide)).mp (show nI (dp st) = nI 10 from z))), show nI (dp st) + (1 : Int32) = nI (dp st + 1) from nI_add _ 1, q_t, f21, if_pos (q_inN (show st.length < 400 by omega) (by decide)), nI_cl (by omega), q_t, g21, show nI st.length + (1 : Int32) = nI (st.length + 1) from nI_add _ 1, q_t]
    rfl
theorem kd_91 (ok : tp_ok n b) : chI b n (z_p s) = nI 91 ↔ p_kd b n s = 347 := (chI_eq ok (c := 91) (by decide)).trans (kd_sg (c := 91) (by decide)).symm
theorem sX12_fact_b2 (ok : tp_ok n b) (ht : t < 6) : ∀ (m q : Nat) (M : QM) (r : Nat) (st : List Nat) (s : PZ), n - z_p s < m → m < q → RD M b n t r s → OS M st → IV n 0 0 (st, s) → qW (fX12_fact_b2 q M (nI 1)) (PF b n t M st s) := by
  have hn := ok.1
  intro m
  induction m with
  | zero => intro q M r st s h; omega
  | succ m ih =>
    intro q M r st s h1 h2 R O I
    obtain ⟨q, rfl⟩ : ∃ p, q = p + 1 := ⟨q - 1, by omega⟩
    obtain ⟨N, e, R2, k⟩ := sX12_see R ok
    have O2 := O.ofN k
    have k1 : FQ SWw t M N := FQ.of k SN_SWw (not_SN (by decide))
    have Il : st.length + 0 ≤ z_p s := I.2.2.2.1
    have Ip : z_p s ≤ n := I.2.1
    rw [fX12_fact_b2, if_neg (show ¬ nI 1 = (0 : Int32) by decide), e, q_b_s, sX12_isWord2 R2 ok (w := 17) (by decide) (show (7237492 : Int64) = lN (pkW (WDS.getD 17 [])) by decide +kernel), q_b_s]
    have eZ : aZ b n true (st, s) = _ := aZ_t hn (st, s)
    unfold aA at eZ
    by_cases c1 : p_kd b n s = 17
    · rw [if_pos (show p_kd b n (st, s).2 = 17 from c1)] at eZ
      have hp := p_kd_on (b := b) (n := n) (s := s) (by omega)
      have g := nx_b (b := b) hp
      have len := nx_len (b := b) (n := n) (p := z_p s) (w := 17) (by decide) c1
      have len : z_p s + 3 ≤ nx b n (z_p s) := len
      rw [if_pos c1, if_neg (by decide)]
      rcases sX12_opens R2 O2 ok (by omega) hp (o := 9) (Or.inl rfl) with ⟨q10, N3, a1, a2, k3⟩ | ⟨q10, N3, a1, R3, O3, k3⟩
      · rw [if_pos (show dp (st, s).1 = 10 from q10)] at eZ
        rw [show fX12_opens N (9 : Int32) = some (nI 0, N3) from a1, q_b_s, if_neg (by decide)]
        exact qW_s ⟨k1.tr k3, Or.inr ⟨rfl, _, eZ, a2⟩⟩
      · rw [if_neg (show ¬ dp (st, s).1 = 10 from q10)] at eZ
        obtain ⟨N4, b1, k4, r4, R4⟩ := sX12_passWord R3 ok (by omega)
        have O4 := O3.ofN k4
        rw [show fX12_opens N (9 : Int32) = some (nI 1, N3) from a1, q_b_s, if_pos (by decide), b1, q_bv_s]
        unfold fX12_fact_b72
        have I4 : IV n 0 0 (9 :: st, p_nx b n s) := by
          obtain ⟨i1, i2, i3, i4, i5⟩ := I
          have i1 : 2 * z_z s + 2 * nb91 st + 0 ≤ z_p s + 2 * z_k s := i1
          refine ⟨?_, g.2, i3, ?_, Or.inl rfl, i5⟩
          · show 2 * z_z s + 2 * (nb91 st + 1) + 0 ≤ nx b n (z_p s) + 2 * z_k s
            omega
          · show st.length + 1 + 0 ≤ nx b n (z_p s)
            omega
        obtain ⟨v, N5, d1, k5, d2⟩ := ih q N4 r4 (9 :: st) (p_nx b n s) (by show n - nx b n (z_p s) < m; omega) (by omega) R4 O4 I4
        have kk := ((k1.tr k3).tr (FQ.of k4 SN_SWw (not_SN (by decide)))).tr k5
        have eZ : aZ b n true (st, s) = aZ b n true (9 :: st, p_nx b n s) := eZ
        refine ⟨v, N5, d1, kk, ?_⟩
        rw [eZ]
        rcases d2 with ⟨f1, r2, st2, s2, f2, f3, f4, f5, f6⟩ | d2
        · have f5 : nx b n (z_p s) < z_p s2 := f5
          exact Or.inl ⟨f1, r2, st2, s2, f2, f3, f4, by omega, f6⟩
        · exact Or.inr d2
    · rw [if_neg (show ¬ p_kd b n (st, s).2 = 17 from c1)] at eZ
      rw [if_neg c1, if_pos (by decide)]
      by_cases c2 : p_kd b n s = 347
      · rw [if_pos (show p_kd b n (st, s).2 = 347 from c2)] at eZ
        have hp := p_kd_on (b := b) (n := n) (s := s) (by omega)
        have g := nx_b (b := b) hp
        rw [if_neg (show ¬ chI b n (z_p s) ≠ (91 : Int32) from fun z => z ((kd_91 ok).mpr c2))]
        rcases sX12_opens R2 O2 ok (by omega) hp (o := 91) (Or.inr rfl) with ⟨q10, N3, a1, a2, k3⟩ | ⟨q10, N3, a1, R3, O3, k3⟩
        · rw [if_pos (show dp (st, s).1 = 10 from q10)] at eZ
          rw [show fX12_opens N (91 : Int32) = some (nI 0, N3) from a1, q_b_s, if_neg (by decide)]
          exact qW_s ⟨k1.tr k3, Or.inr ⟨rfl, _, eZ, a2⟩⟩
        · rw [if_neg (show ¬ dp (st, s).1 = 10 from q10)] at eZ
          obtain ⟨R4, k4⟩ := R3.sign (by omega) (by omega)
          have O4 := O3.ofN k4
          rw [show fX12_opens N (91 : Int32) = some (nI 1, N3) from a1, q_b_s, if_pos (by decide), R3.2.2.1, show nI (z_p s) + (1 : Int32) = nI (z_p s + 1) from nI_add _ 1, q_t]
          unfold fX12_fact_b72
          have I4 : IV n 0 0 (91 :: st, p_nx b n s) := by
            obtain ⟨i1, i2, i3, i4, i5⟩ := I
            have i1 : 2 * z_z s + 2 * nb91 st + 0 ≤ z_p s + 2 * z_k s := i1
            refine ⟨?_, g.2, i3, ?_, Or.inr (Or.inr (Or.inr rfl)), i5⟩
            · show 2 * z_z s + 2 * (nb91 st + 0) + 0 ≤ nx b n (z_p s) + 2 * z_k s
              omega
            · show st.length + 1 + 0 ≤ nx b n (z_p s)
              omega
          obtain ⟨v, N5, d1, k5, d2⟩ := ih q (p_i N3 1000 14 (nI (z_p s + 1))) (z_p s + 1) (91 :: st) (p_nx b n s) (by show n - nx b n (z_p s) < m; omega) (by omega) R4 O4 I4
          have kk := ((k1.tr k3).tr (FQ.of k4 SN_SWw (not_SN (by decide)))).tr k5
          have eZ : aZ b n true (st, s) = aZ b n true (91 :: st, p_nx b n s) := eZ
          refine ⟨v, N5, d1, kk, ?_⟩
          rw [eZ]
          rcases d2 with ⟨f1, r2, st2, s2, f2, f3, f4, f5, f6⟩ | d2
          · have f5 : nx b n (z_p s) < z_p s2 := f5
            exact Or.inl ⟨f1, r2, st2, s2, f2, f3, f4, by omega, f6⟩
          · exact Or.inr d2
      · rw [if_neg (show ¬ p_kd b n (st, s).2 = 347 from c2)] at eZ
        have eZ : aZ b n true (st, s) = x_b (p_cmp b n s) (fun s1 => aZ b n false (stl 3 st s1)) := eZ
        rw [if_pos (show chI b n (z_p s) ≠ (91 : Int32) from fun z => c2 ((kd_91 ok).mp z))]
        unfold fX12_fact_b72
        obtain ⟨q, rfl⟩ : ∃ p, q = p + 1 := ⟨q - 1, by omega⟩
        show qW (fX12_fact_b2 (q + 1) N 0) _
        rw [fX12_fact_b2, if_pos rfl]
        unfold fX12_fact_b75
        obtain ⟨v, N3, a1, k3, a2⟩ := sX12_compare R2 ok ht (IV.bz I)
        have O3 := O2.ofV k3
        have kk := k1.tr (k3.wd SVv_SWw)
        rw [a1, q_b_s]
        cases hv : p_cmp b n s with
        | error f =>
          rw [hv] at a2 eZ
          obtain ⟨rfl, a2⟩ := a2
          rw [if_pos (by decide)]
          exact qW_s ⟨kk, Or.inr ⟨rfl, f, eZ, a2⟩⟩
        | ok s1 =>
          rw [hv] at a2 eZ
          obtain ⟨rfl, r2, R3⟩ := a2
          have T := (p_cmp_ty (ts := []) hv (Nat.zero_le _)).1
          obtain ⟨t1, t2, t3, t4, t5, t6, t7⟩ := T
          have I3 : IV n 0 0 (st, s1) := by
            obtain ⟨i1, i2, i3, i4, i5⟩ := I
            have i1 : 2 * z_z s + 2 * nb91 st + 0 ≤ z_p s + 2 * z_k s := i1
            refine ⟨?_, t2, t4, ?_, i5⟩
            · show 2 * z_z s1 + 2 * nb91 st + 0 ≤ z_p s1 + 2 * z_k s1
              omega
            · show st.length + 0 ≤ z_p s1
              omega
          rw [if_pos (by decide)]
          exact qW_s ⟨kk, Or.inl ⟨rfl, r2, st, s1, R3, O3, I3, t1, eZ⟩⟩
theorem sX12_test_b12 (ok : tp_ok n b) (ht : t < 6) : ∀ (m q : Nat) (M : QM) (r : Nat) (st : List Nat) (s : PZ), n - z_p s < m → m < q → RD M b n t r s → OS M st → IV n 0 0 (st, s) → qW (fX12_test_b12 q M (nI 1)) (P2 SWw b n t M (aZ b n true (st, s))) := by
  have hn := ok.1
  intro m
  induction m with
  | zero => intro q M r st s h; omega
  | succ m ih =>
    intro q M r st s h1 h2 R O I
    obtain ⟨q, rfl⟩ : ∃ p, q = p + 1 := ⟨q - 1, by omega⟩
    obtain ⟨v, N1, a1, k1, a2⟩ := sX12_fact_b2 ok ht (n + 1) q_F M r st s (by omega) (q_Fn (by omega)) R O I
    rw [fX12_test_b12, if_neg (show ¬ nI 1 = (0 : Int32) by decide)]
    unfold fX12_fact
    rw [show fX12_fact_b2 q_F M (1 : Int32) = some (v, N1) from a1, q_b_s]
    rcases a2 with ⟨rfl, r2, st2, s2, R2, O2, I2, p2, eZ⟩ | ⟨rfl, e, eZ, a3⟩
    · obtain ⟨N2, b1, k2, R3, O3⟩ := sX12_settles ok ht (k := 3) (by decide) (by decide) R2 O2 I2
      have I3 := IV.stlz (k := 3) (by decide) I2
      have ep3 := stl_p 3 st2 s2
      obtain ⟨N3, c1, k3, r4, st4, s4, R4, O4, I4, p4, eZ4, no⟩ := sX12_closes_b5 ok ht (n + 1) q_F N2 r2 (stl 3 st2 s2).1 (stl 3 st2 s2).2 (by omega) (q_Fn (by omega)) R3 O3 I3
      have eZ4 : aZ b n false (stl 3 st2 s2) = aZ b n false (st4, s4) := eZ4
      have kk := (k1.tr k2).tr k3
      have hp4 : z_p s < z_p s4 := by omega
      rw [eZ, eZ4, aZ_f hn, if_pos (by decide)]
      unfold fX12_closes
      rw [show fX12_settles N1 (3 : Int32) = some N2 from b1, q_bv_s, c1, q_bv_s]
      obtain ⟨N4, d1, R5, k5⟩ := sX12_isWord R4 ok (w := 16) (by decide) (show (6385252 : Int64) = lN (pkW (WDS.getD 16 [])) by decide +kernel)
      have O5 := O4.ofN k5
      have kk5 := kk.tr (FQ.of (t := t) k5 SN_SWw (not_SN (by decide)))
      rw [d1, q_b_s]
      unfold aB
      rw [if_neg no]
      have Il : st4.length + 0 ≤ z_p s4 := I4.2.2.2.1
      have Ip : z_p s4 ≤ n := I4.2.1
      -- a joining word goes on
      have go : ∀ (w o k : Nat) (N5 : QM), (o = 10 ∧ k = 2 ∧ w = 16 ∨ o = 11 ∧ k = 1 ∧ w = 15) → p_kd b n s4 = w → RD N5 b n t (z_p s4) s4 → OS N5 st4 → FQ SWw t M N5 → qW (fX12_test_b76 (fun M x1 => fX12_test_b12 q M x1) N5 (nI 1) (nI o)) (P2 SWw b n t M (aZ b n true (o :: (stl k st4 s4).1, p_nx b n (stl k st4 s4).2))) := fun w o k N5 how hw R5 O5 kk5 => by
        have hp := p_kd_on (b := b) (n := n) (s := s4) (by omega)
        have g := nx_b (b := b) hp
        obtain ⟨N6, e1, k6, r6, R6⟩ := sX12_passWord R5 ok (by omega)
        have O6 := O5.ofN k6
        have w2 : z_p s4 + 2 ≤ nx b n (z_p s4) := by
          rcases how with ⟨_, _, e⟩ | ⟨_, _, e⟩
          · have := nx_len (b := b) (n := n) (p := z_p s4) (w := 16) (by decide) (by rw [← e]; exact hw)
            have e3 : (WDS.getD 16 []).length = 3 := rfl
            omega
          · have := nx_len (b := b) (n := n) (p := z_p s4) (w := 15) (by decide) (by rw [← e]; exact hw)
            have e3 : (WDS.getD 15 []).length = 2 := rfl
            omega
        have I6 : IV n 2 1 (st4, p_nx b n s4) := by
          obtain ⟨i1, i2, i3, i4, i5⟩ := I4
          have i1 : 2 * z_z s4 + 2 * nb91 st4 + 0 ≤ z_p s4 + 2 * z_k s4 := i1
          refine ⟨?_, g.2, i3, ?_, i5⟩
          · show 2 * z_z s4 + 2 * nb91 st4 + 2 ≤ nx b n (z_p s4) + 2 * z_k s4
            omega
          · show st4.length + 1 ≤ nx b n (z_p s4)
            omega
        obtain ⟨N7, f1, k7, R7, O7⟩ := sX12_settles ok ht (k := k) (by omega) (by omega) R6 O6 I6
        have I7 := IV.stlz (k := k) (by omega) I6
        have ep7 := stl_p k st4 (p_nx b n s4)
        have ep7 : z_p (stl k st4 (p_nx b n s4)).2 = nx b n (z_p s4) := ep7
        have eo4 : o = 9 ∨ o = 10 ∨ o = 11 ∨ o = 91 := by omega
        have est : str o = k := by rcases how with ⟨e, e2, _⟩ | ⟨e, e2, _⟩ <;> subst e <;> subst e2 <;> decide
        unfold fX12_test_b76
        rw [e1, q_bv_s, sX12_strength N6 eo4, q_b_s, est, f1, q_bv_s]
        rw [show stl k st4 s4 = ((stl k st4 s4).1, (stl k st4 s4).2) from rfl]
        have ex := stl_nx (b := b) (n := n) k st4 s4
        rw [show (o :: ((stl k st4 s4).1, (stl k st4 s4).2).1, p_nx b n ((stl k st4 s4).1, (stl k st4 s4).2).2) = (o :: (stl k st4 (p_nx b n s4)).1, (stl k st4 (p_nx b n s4)).2) from by rw [ex]]
        generalize (stl k st4 (p_nx b n s4)) = Q at *
        obtain ⟨st7, s7⟩ := Q
        have I7l : st7.length + 1 ≤ z_p s7 := I7.2.2.2.1
        have I7p : z_p s7 ≤ n := I7.2.1
        have ep7 : z_p s7 = nx b n (z_p s4) := ep7
        obtain ⟨o1, o2, o3⟩ := O7
        have o1 : q_i N7 1000 21 = nI st7.length := o1
        have k8 : kp STk N7 (p_i (p_a N7 1000 20 st7.length (nI o)) 1000 21 (nI (st7.length + 1))) := (kp_a ⟨rfl, by decide⟩).tr (kp_i ⟨rfl, by decide⟩)
        have g21 : q_i (p_a N7 1000 20 st7.length (nI o)) 1000 21 = nI st7.length := by
          simp only [y_ii, y_ia, y_il, y_ir, y_ai, y_aa, y_al, y_ar, y_li, y_la, y_ll, y_lr, y_ri, y_ra, y_rl, y_rr, and_true, true_and, and_false, false_and, and_self, if_true, if_false, Nat.reduceEqDiff, reduceCtorEq, or_false, false_or, or_true, true_or]
          exact o1
        rw [o1, if_pos (q_inN (show st7.length < 400 by omega) (by decide)), nI_cl (by omega), q_t, g21, show nI st7.length + (1 : Int32) = nI (st7.length + 1) from nI_add _ 1, q_t]
        have R8 := RD.ofT (M := N7) R7 k8
        have O8 : OS (p_i (p_a N7 1000 20 st7.length (nI o)) 1000 21 (nI (st7.length + 1))) (o :: st7) := by
          refine ⟨by simp only [y_ii, y_ia, y_il, y_ir, y_ai, y_aa, y_al, y_ar, y_li, y_la, y_ll, y_lr, y_ri, y_ra, y_rl, y_rr, and_true, true_and, and_false, false_and, and_self, if_true, if_false, Nat.reduceEqDiff, reduceCtorEq, or_false, false_or, or_true, true_or]; rfl, ?_, ?_, stc.kept o3 (fun c hc => ?_)⟩
          · simp only [y_ii, y_ia, y_il, y_ir, y_ai, y_aa, y_al, y_ar, y_li, y_la, y_ll, y_lr, y_ri, y_ra, y_rl, y_rr, and_true, true_and, and_false, false_and, and_self, if_true, if_false, Nat.reduceEqDiff, reduceCtorEq, or_false, false_or, or_true, true_or]
            have o2 : q_i N7 1000 19 = nI (dp st7) := o2
            rw [o2]
            show nI (dp st7) = nI (dp st7 + if o = 9 ∨ o = 91 then 1 else 0)
            rw [if_neg (by omega)]
            rfl
          · simp only [y_ii, y_ia, y_il, y_ir, y_ai, y_aa, y_al, y_ar, y_li, y_la, y_ll, y_lr, y_ri, y_ra, y_rl, y_rr, and_true, true_and, and_false, false_and, and_self, if_true, if_false, Nat.reduceEqDiff, reduceCtorEq, or_false, false_or, or_true, true_or]
          · have hc : c < st7.length := hc
            simp only [y_ii, y_ia, y_il, y_ir, y_ai, y_aa, y_al, y_ar, y_li, y_la, y_ll, y_lr, y_ri, y_ra, y_rl, y_rr, and_true, true_and, and_false, false_and, and_self, if_true, if_false, Nat.reduceEqDiff, reduceCtorEq, or_false, false_or, or_true, true_or, show ¬ c = st7.length by omega]
        have I8 : IV n 0 0 (o :: st7, s7) := by
          obtain ⟨i1, i2, i3, i4, i5⟩ := I7
          have i1 : 2 * z_z s7 + 2 * nb91 st7 + 2 ≤ z_p s7 + 2 * z_k s7 := i1
          refine ⟨?_, i2, i3, ?_, eo4, i5⟩
          · show 2 * z_z s7 + 2 * (nb91 st7 + if o = 91 then 0 else 1) + 0 ≤ z_p s7 + 2 * z_k s7
            rw [if_neg (by omega)]
            omega
          · show st7.length + 1 + 0 ≤ z_p s7
            omega
        obtain ⟨v9, N9, h3, h4⟩ := ih q _ r6 (o :: st7) s7 (by omega) (by omega) R8 O8 I8
        exact ⟨v9, N9, h3, P2.tr (((kk5.tr (FQ.of k6 SN_SWw (not_SN (by decide)))).tr k7).tr (FQ.of k8 STk_SWw not_STk6)) h4⟩
      by_cases c16 : p_kd b n s4 = 16
      · rw [if_pos c16, if_pos (by decide), if_pos (show p_kd b n (st4, s4).2 = 16 from c16)]
        unfold fX12_test_b49 fX12_test_b54
        rw [if_neg (by decide), sX12_isWord2 R5 ok (w := 16) (by decide) (show (6385252 : Int64) = lN (pkW (WDS.getD 16 [])) by decide +kernel), q_b_s, if_pos c16, if_neg (by decide)]
        exact go 16 10 2 N4 (Or.inl ⟨rfl, rfl, rfl⟩) c16 R5 O5 kk5
      · rw [if_neg c16, if_neg (by decide), if_neg (show ¬ p_kd b n (st4, s4).2 = 16 from c16), sX12_isWord2 R5 ok (w := 15) (by decide) (show (28530 : Int64) = lN (pkW (WDS.getD 15 [])) by decide +kernel), q_b_s]
        by_cases c15 : p_kd b n s4 = 15
        · rw [if_pos c15, if_neg (by decide), if_pos (show p_kd b n (st4, s4).2 = 15 from c15)]
          unfold fX12_test_b49 fX12_test_b54
          rw [if_neg (by decide), sX12_isWord2 R5 ok (w := 16) (by decide) (show (6385252 : Int64) = lN (pkW (WDS.getD 16 [])) by decide +kernel), q_b_s, if_neg c16, if_pos (by decide)]
          exact go 15 11 1 N4 (Or.inr ⟨rfl, rfl, rfl⟩) c15 R5 O5 kk5
        · rw [if_neg c15, if_pos (by decide), if_neg (show ¬ p_kd b n (st4, s4).2 = 15 from c15)]
          unfold fX12_test_b54
          rw [if_pos rfl]
          obtain ⟨q, rfl⟩ : ∃ p, q = p + 1 := ⟨q - 1, by omega⟩
          show qW (fX12_test_b12 (q + 1) N4 0) _
          rw [fX12_test_b12, if_pos rfl]
          unfold fX12_test_b112
          rw [sX12_isInside O5 I4.2.2.2.2 (by omega), q_b_s]
          cases c91 : i91 st4 with
          | false =>
            obtain ⟨N6, e1, k6, R6, O6⟩ := sX12_settles ok ht (k := 1) (by decide) (by decide) R5 O5 I4
            rw [if_pos (by decide), if_neg (show ¬ false = true by decide), show fX12_settles N4 (1 : Int32) = some N6 from e1, q_bv_s]
            exact qW_s ⟨kk5.tr k6, rfl, _, R6⟩
          | true =>
            rw [if_neg (by decide), if_pos (show true = true from rfl), sX12_see2 R5 ok, q_b_s, R5.2.2.1, show fX12_fails N4 (0 : Int32) (nI (z_p s4)) = _ from sX12_fails R5.2.2.2.2.2.1 (k := 0) (by decide) (by omega), q_b_s, if_pos (by decide)]
            refine qW_s ⟨kk5.tr (FQ.of (S := SM) (kp_i ⟨rfl, by decide⟩) SM_SWw not_SM6), rfl, ?_⟩
            simp only [y_ii, y_ia, y_il, y_ir, y_ai, y_aa, y_al, y_ar, y_li, y_la, y_ll, y_lr, y_ri, y_ra, y_rl, y_rr, and_true, true_and, and_false, false_and, and_self, if_true, if_false, Nat.reduceEqDiff, reduceCtorEq, or_false, false_or, or_true, true_or]
    · rw [eZ, if_neg (by decide)]
      exact qW_s ⟨k1, rfl, a3⟩
theorem sX12_test (R : RD M b n t r s) (ok : tp_ok n b) (ht : t < 6) (hz : BZ n 0 s) : qW (fX12_test M) (P2 SWw b n t M (p_tst b n (p_fact b n 14 0) s)) := by
  have hn := ok.1
  have k : kp STk M (p_i (p_i M 1000 21 (nI 0)) 1000 19 (nI 0)) := (kp_i ⟨rfl, by decide⟩).tr (kp_i ⟨rfl, by decide⟩)
  have I : IV n 0 0 (([] : List Nat), s) := ⟨by have := hz.1; show 2 * z_z s + 2 * 0 + 0 ≤ z_p s + 2 * z_k s; omega, hz.2.1, hz.2.2, Nat.zero_le _, trivial⟩
  have O : OS (p_i (p_i M 1000 21 (nI 0)) 1000 19 (nI 0)) [] := ⟨by simp only [y_ii, y_ia, y_il, y_ir, y_ai, y_aa, y_al, y_ar, y_li, y_la, y_ll, y_lr, y_ri, y_ra, y_rl, y_rr, and_true, true_and, and_false, false_and, and_self, if_true, if_false, Nat.reduceEqDiff, reduceCtorEq, or_false, false_or, or_true, true_or]; rfl, by simp only [y_ii, y_ia, y_il, y_ir, y_ai, y_aa, y_al, y_ar, y_li, y_la, y_ll, y_lr, y_ri, y_ra, y_rl, y_rr, and_true, true_and, and_false, false_and, and_self, if_true, if_false, Nat.reduceEqDiff, reduceCtorEq, or_false, false_or, or_true, true_or]; rfl, trivial⟩
  obtain ⟨v, N, a1, a2⟩ := sX12_test_b12 ok ht (n + 1) q_F _ r [] s (by omega) (q_Fn (by omega)) (R.ofT k) O I
  rw [aZ_is hn] at a2
  exact ⟨v, N, a1, P2.tr (FQ.of k STk_SWw not_STk6) a2⟩
end TEST2
