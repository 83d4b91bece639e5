/-! the reference's test runs the machine -/
def SWw (a j : Nat) : Prop := a = 1000 ∧ (j = 6 ∨ j = 7 ∨ j = 14 ∨ j = 15 ∨ j = 16 ∨ j = 18 ∨ j = 19 ∨ j = 20 ∨ j = 21)
def STk (a j : Nat) : Prop := a = 1000 ∧ (j = 19 ∨ j = 20 ∨ j = 21)
theorem SVv_SWw (a j : Nat) (z : SVv a j) : SWw a j := ⟨z.1, by have := z.2; omega⟩
theorem STk_SWw (a j : Nat) (z : STk a j) : SWw a j := ⟨z.1, by have := z.2; omega⟩
theorem SN_SWw (a j : Nat) (z : SN a j) : SWw a j := ⟨z.1, by have := z.2; omega⟩
theorem SM_SWw (a j : Nat) (z : SM a j) : SWw a j := ⟨z.1, by have := z.2; omega⟩
theorem not_STk6 : ¬ STk 1000 6 := fun z => by have := z.2; omega
def stc (M : QM) : List Nat → Prop
  | [] => True
  | o :: st => q_a M 1000 20 st.length = nI o ∧ stc M st
def eo : List Nat → Prop
  | [] => True
  | o :: st => (o = 9 ∨ o = 10 ∨ o = 11 ∨ o = 91) ∧ eo st
def nb91 : List Nat → Nat
  | [] => 0
  | o :: st => nb91 st + if o = 91 then 0 else 1
/-- the open stack -/
def OS (M : QM) (st : List Nat) : Prop := q_i M 1000 21 = nI st.length ∧ q_i M 1000 19 = nI (dp st) ∧ stc M st
def IV (n i j : Nat) (q : SK) : Prop := 2 * z_z q.2 + 2 * nb91 q.1 + i ≤ z_p q.2 + 2 * z_k q.2 ∧ z_p q.2 ≤ n ∧ z_k q.2 ≤ 50 ∧ q.1.length + j ≤ z_p q.2 ∧ eo q.1
section STACK
variable {M N : QM} {b : Nat → Nat} {n t r : Nat} {s : PZ} {st : List Nat}
theorem stc.kept (h : stc M st) (k : ∀ c, c < st.length → q_a N 1000 20 c = q_a M 1000 20 c) : stc N st := by
  induction st with
  | nil => exact trivial
  | cons o st ih => exact ⟨(k _ (Nat.lt_succ_self _)).trans h.1, ih h.2 (fun c hc => k c (Nat.lt_succ_of_lt hc))⟩
theorem OS.kept {S : Nat → Nat → Prop} (h : OS M st) (k : kp S M N) (h1 : ¬ S 1000 19) (h2 : ¬ S 1000 20) (h3 : ¬ S 1000 21) : OS N st := ⟨(k.i h3).trans h.1, (k.i h1).trans h.2.1, h.2.2.kept (fun c _ => k.a h2)⟩
theorem OS.ofV (h : OS M st) (k : FQ SVv t M N) : OS N st := h.kept k.1 (fun z => by have := z.2; omega) (fun z => by have := z.2; omega) (fun z => by have := z.2; omega)
theorem OS.ofN (h : OS M st) (k : kp SN M N) : OS N st := h.kept k (not_SN (by decide)) (not_SN (by decide)) (not_SN (by decide))
theorem RD.ofT (R : RD M b n t r s) (k : kp STk M N) : RD N b n t r s := by
  obtain ⟨h1, h2, h3, h4, h5, h6, h7, h8, h9⟩ := R
  have nS : ∀ {j : Nat}, j < 19 → ¬ STk 1000 j := fun hj z => by have := z.2; omega
  exact ⟨h1.keptN k (nS (by decide)) (nS (by decide)), (k.i (nS (by decide))).trans h2, (k.i (nS (by decide))).trans h3, h4, h5, (k.i (nS (by decide))).trans h6, (k.i (nS (by decide))).trans h7, (k.a (nS (by decide))).trans h8, fun j hj => (k.a (nS (by decide))).trans (h9 j hj)⟩
theorem IV.bz {i j : Nat} (h : IV n i j (st, s)) : BZ n i s := by
  obtain ⟨h1, h2, h3, h4, h5⟩ := h
  have h1 : 2 * z_z s + 2 * nb91 st + i ≤ z_p s + 2 * z_k s := h1
  exact ⟨by omega, h2, h3⟩
theorem IV.pop {i j o : Nat} (h : IV n i j (o :: st, s)) (ho : o ≠ 91) : IV n i j (st, p_em (o, 0) s) := by
  obtain ⟨h1, h2, h3, h4, h5⟩ := h
  have h1 : 2 * z_z s + 2 * (nb91 st + if o = 91 then 0 else 1) + i ≤ z_p s + 2 * z_k s := h1
  rw [if_neg ho] at h1
  have h4 : st.length + 1 + j ≤ z_p s := h4
  refine ⟨?_, h2, h3, ?_, h5.2⟩
  · show 2 * (z_z s + 1) + 2 * nb91 st + i ≤ z_p s + 2 * z_k s
    omega
  · show st.length + j ≤ z_p s
    omega
theorem str_91 : str 91 = 0 := by decide
theorem IV.stlz {k i j : Nat} (hk : 0 < k) : ∀ {st : List Nat} {s : PZ}, IV n i j (st, s) → IV n i j (stl k st s) := by
  intro st
  induction st with
  | nil => intro s h; exact h
  | cons o st ih =>
    intro s h
    unfold stl
    by_cases c : str o < k
    · rw [if_pos c]
      exact h
    · rw [if_neg c]
      exact ih (h.pop (fun z => by rw [z, str_91] at c; omega))
theorem stl_nx (k : Nat) : ∀ (st : List Nat) (s : PZ), stl k st (p_nx b n s) = ((stl k st s).1, p_nx b n (stl k st s).2) := by
  intro st
  induction st with
  | nil => intro s; rfl
  | cons o st ih =>
    intro s
    unfold stl
    split
    · rfl
    · exact ih (p_em (o, 0) s)
theorem stl_91 {st : List Nat} {s : PZ} (he : eo st) (h : i91 st = true) : (stl 1 st s).1 = 91 :: (stl 1 st s).1.tail := by
  induction st generalizing s with
  | nil => cases h
  | cons o st ih =>
    unfold stl
    by_cases c : str o < 1
    · rw [if_pos c]
      have : o = 91 := by
        rcases he.1 with e | e | e | e
        · subst e; exact absurd c (by decide)
        · subst e; exact absurd c (by decide)
        · subst e; exact absurd c (by decide)
        · exact e
      rw [this]
      rfl
    · rw [if_neg c]
      refine ih he.2 ?_
      have h : (decide (o = 91) || i91 st) = true := h
      rw [decide_eq_false (fun z => c (by rw [z]; decide))] at h
      exact h
theorem sX12_strength (M : QM) {o : Nat} (ho : o = 9 ∨ o = 10 ∨ o = 11 ∨ o = 91) : fX12_strength M (nI o) = some (nI (str o), M) := by
  rcases ho with e | e | e | e <;> subst e <;> rfl
theorem dp_len : ∀ (st : List Nat), dp st ≤ st.length := by
  intro st
  induction st with
  | nil => exact Nat.le_refl _
  | cons o st ih =>
    show dp st + (if o = 9 ∨ o = 91 then 1 else 0) ≤ st.length + 1
    split <;> omega
theorem sX12_settles_b0 (ok : tp_ok n b) (ht : t < 6) {k : Nat} (hk : 0 < k) (hk4 : k < 10) {i j : Nat} : ∀ (st : List Nat) (s : PZ) (q : Nat) (M : QM), st.length < q → RD M b n t r s → OS M st → IV n i j (st, s) → qV (fX12_settles_b0 q M (nI k)) (fun N => FQ SWw t M N ∧ RD N b n t r (stl k st s).2 ∧ OS N (stl k st s).1) := by
  have hn := ok.1
  intro st
  induction st with
  | nil =>
    intro s q M hq R O I
    obtain ⟨q, rfl⟩ : ∃ p, q = p + 1 := ⟨q - 1, by omega⟩
    rw [fX12_settles_b0, O.1, if_pos (show nI ([] : List Nat).length ≤ (0 : Int32) by decide)]
    exact qV_s ⟨FQ.rf, R, O⟩
  | cons o st ih =>
    intro s q M hq R O I
    obtain ⟨q, rfl⟩ : ∃ p, q = p + 1 := ⟨q - 1, by omega⟩
    obtain ⟨O1, O2, O3, O4⟩ := O
    have I4 : st.length + 1 + j ≤ z_p s := I.2.2.2.1
    have I2 : z_p s ≤ n := I.2.1
    have ho := I.2.2.2.2.1
    have O1 : q_i M 1000 21 = nI (st.length + 1) := O1
    have hq : st.length + 1 < q + 1 := hq
    rw [fX12_settles_b0, O1, if_neg (show ¬ nI (st.length + 1) ≤ (0 : Int32) from (show ¬ nI (st.length + 1) ≤ nI 0 from nI_ge (by omega) (by omega))), show nI (st.length + 1) - (1 : Int32) = nI (st.length + 1 - 1) from (show nI (st.length + 1) - nI 1 = nI (st.length + 1 - 1) from pk_sub (by omega)), Nat.add_sub_cancel, if_pos (q_inN (show st.length < 400 by omega) (by decide)), nI_cl (by omega), O3, sX12_strength M ho, q_b_s]
    unfold stl
    by_cases c : str o < k
    · rw [if_pos c, if_pos (nI_lt c (by omega))]
      exact qV_s ⟨FQ.rf, R, O1, O2, O3, O4⟩
    · have sle : str o < 4 := by
        rcases ho with e | e | e | e <;> subst e <;> decide
      have h91 : o ≠ 91 := fun z => by rw [z, str_91] at c; omega
      rw [if_neg c, if_neg (nI_nlt (by omega) (by omega)), O1, show nI (st.length + 1) - (1 : Int32) = nI (st.length + 1 - 1) from (show nI (st.length + 1) - nI 1 = nI (st.length + 1 - 1) from pk_sub (by omega)), Nat.add_sub_cancel, q_t]
      have k5 : kp STk M (p_i M 1000 21 (nI st.length)) := kp_i ⟨rfl, by decide⟩
      have R5 := R.ofT k5
      have e21 : q_i (p_i M 1000 21 (nI st.length)) 1000 21 = nI st.length := by simp only [y_ii, y_ia, y_il, y_ir, y_ai, y_aa, y_al, y_ar, y_li, y_la, y_ll, y_lr, y_ri, y_ra, y_rl, y_rr, and_true, true_and, and_false, false_and, and_self, if_true, if_false, Nat.reduceEqDiff, reduceCtorEq, or_false, false_or, or_true, true_or]
      have e20 : q_a (p_i M 1000 21 (nI st.length)) 1000 20 st.length = nI o := by
        simp only [y_ii, y_ia, y_il, y_ir, y_ai, y_aa, y_al, y_ar, y_li, y_la, y_ll, y_lr, y_ri, y_ra, y_rl, y_rr, and_true, true_and, and_false, false_and, and_self, if_true, if_false, Nat.reduceEqDiff, reduceCtorEq, or_false, false_or, or_true, true_or]
        exact O3
      have e19 : q_i (p_i M 1000 21 (nI st.length)) 1000 19 = nI (dp (o :: st)) := by
        simp only [y_ii, y_ia, y_il, y_ir, y_ai, y_aa, y_al, y_ar, y_li, y_la, y_ll, y_lr, y_ri, y_ra, y_rl, y_rr, and_true, true_and, and_false, false_and, and_self, if_true, if_false, Nat.reduceEqDiff, reduceCtorEq, or_false, false_or, or_true, true_or]
        exact O2
      have ec : stc (p_i M 1000 21 (nI st.length)) st := O4.kept (fun c _ => by simp only [y_ii, y_ia, y_il, y_ir, y_ai, y_aa, y_al, y_ar, y_li, y_la, y_ll, y_lr, y_ri, y_ra, y_rl, y_rr, and_true, true_and, and_false, false_and, and_self, if_true, if_false, Nat.reduceEqDiff, reduceCtorEq, or_false, false_or, or_true, true_or])
      generalize p_i M 1000 21 (nI st.length) = M5 at *
      have hz := (IV.bz I).z hn
      obtain ⟨N, a1, R6, k6⟩ := sX12_puts R5 ht hz (o, 0)
      have f21 : q_i N 1000 21 = nI st.length := (k6.1.i (fun z => by have := z.2; omega)).trans e21
      have f20 : q_a N 1000 20 st.length = nI o := (k6.1.a (fun z => by have := z.2; omega)).trans e20
      have f19 : q_i N 1000 19 = nI (dp (o :: st)) := (k6.1.i (fun z => by have := z.2; omega)).trans e19
      have fc : stc N st := ec.kept (fun c _ => k6.1.a (fun z => by have := z.2; omega))
      have k7 : FQ SWw t M N := (FQ.of k5 STk_SWw not_STk6).tr (k6.wd SVv_SWw)
      rw [e21, if_pos (q_inN (show st.length < 400 by omega) (by decide)), nI_cl (by omega), e20, show fX12_puts M5 (nI o) (0 : Int32) = some N from a1, q_bv_s, f21, if_pos (q_inN (show st.length < 400 by omega) (by decide)), nI_cl (by omega), f20]
      by_cases c9 : o = 9
      · have d9 : dp (o :: st) = dp st + 1 := by
          show dp st + (if o = 9 ∨ o = 91 then 1 else 0) = dp st + 1
          rw [if_pos (Or.inl c9)]
        have dl := dp_len st
        have k8 : kp STk N (p_i N 1000 19 (nI (dp st))) := kp_i ⟨rfl, by decide⟩
        rw [if_neg (show ¬ nI o ≠ (9 : Int32) from fun z => z (by rw [c9]; rfl)), f19, d9, show nI (dp st + 1) - (1 : Int32) = nI (dp st + 1 - 1) from (show nI (dp st + 1) - nI 1 = nI (dp st + 1 - 1) from pk_sub (by omega)), Nat.add_sub_cancel, q_t]
        obtain ⟨N9, b1, b2, b3, b4⟩ := ih (p_em (o, 0) s) q (p_i N 1000 19 (nI (dp st))) (by omega) (R6.ofT k8) ⟨by simp only [y_ii, y_ia, y_il, y_ir, y_ai, y_aa, y_al, y_ar, y_li, y_la, y_ll, y_lr, y_ri, y_ra, y_rl, y_rr, and_true, true_and, and_false, false_and, and_self, if_true, if_false, Nat.reduceEqDiff, reduceCtorEq, or_false, false_or, or_true, true_or]; exact f21, by simp only [y_ii, y_ia, y_il, y_ir, y_ai, y_aa, y_al, y_ar, y_li, y_la, y_ll, y_lr, y_ri, y_ra, y_rl, y_rr, and_true, true_and, and_false, false_and, and_self, if_true, if_false, Nat.reduceEqDiff, reduceCtorEq, or_false, false_or, or_true, true_or], fc.kept (fun c _ => by simp only [y_ii, y_ia, y_il, y_ir, y_ai, y_aa, y_al, y_ar, y_li, y_la, y_ll, y_lr, y_ri, y_ra, y_rl, y_rr, and_true, true_and, and_false, false_and, and_self, if_true, if_false, Nat.reduceEqDiff, reduceCtorEq, or_false, false_or, or_true, true_or])⟩ (I.pop h91)
        exact ⟨N9, b1, (k7.tr (FQ.of k8 STk_SWw not_STk6)).tr b2, b3, b4⟩
      · have d9 : dp (o :: st) = dp st := by
          show dp st + (if o = 9 ∨ o = 91 then 1 else 0) = dp st
          rw [if_neg (by omega)]
          rfl
        rw [if_pos (show nI o ≠ (9 : Int32) from fun z => c9 ((nI_eq (by omega) (by decide)).mp (show nI o = nI 9 from z)))]
        obtain ⟨N9, b1, b2, b3, b4⟩ := ih (p_em (o, 0) s) q N (by omega) R6 ⟨f21, by rw [← d9]; exact f19, fc⟩ (I.pop h91)
        exact ⟨N9, b1, k7.tr b2, b3, b4⟩
theorem sX12_settles (ok : tp_ok n b) (ht : t < 6) {k : Nat} (hk : 0 < k) (hk4 : k < 10) {i j : Nat} (R : RD M b n t r s) (O : OS M st) (I : IV n i j (st, s)) : qV (fX12_settles M (nI k)) (fun N => FQ SWw t M N ∧ RD N b n t r (stl k st s).2 ∧ OS N (stl k st s).1) := by
  have hn := ok.1
  have I4 : st.length + j ≤ z_p s := I.2.2.2.1
  have I2 : z_p s ≤ n := I.2.1
  exact sX12_settles_b0 ok ht hk hk4 st s q_F M (q_Fn (by omega)) R O I
def exR (R : Nat → Int32) : Nat → Nat → Bool
  | _, 0 => false
  | i, d + 1 => decide (R i = nI 91) || exR R (i + 1) d
theorem exR_snoc (R : Nat → Int32) : ∀ (d i : Nat), exR R i (d + 1) = (exR R i d || decide (R (i + d) = nI 91)) := by
  intro d
  induction d with
  | zero =>
    intro i
    show (decide (R i = nI 91) || false) = (false || decide (R (i + 0) = nI 91))
    rw [Bool.or_false, Bool.false_or]
    rfl
  | succ d ih =>
    intro i
    show (decide (R i = nI 91) || exR R (i + 1) (d + 1)) = ((decide (R i = nI 91) || exR R (i + 1) d) || _)
    rw [ih (i + 1), Bool.or_assoc, show i + 1 + d = i + (d + 1) by omega]
theorem exR_91 : ∀ {st : List Nat}, stc M st → eo st → exR (fun c => q_a M 1000 20 c) 0 st.length = i91 st
  | [], _, _ => rfl
  | o :: st, h, he => by
    show exR (fun c => q_a M 1000 20 c) 0 (st.length + 1) = (decide (o = 91) || i91 st)
    rw [exR_snoc, exR_91 h.2 he.2, Bool.or_comm]
    congr 1
    show decide (q_a M 1000 20 (0 + st.length) = nI 91) = _
    rw [Nat.zero_add, h.1]
    have := he.1
    by_cases c : o = 91
    · rw [c]
      rfl
    · rw [decide_eq_false c, decide_eq_false (fun z => c ((nI_eq (by omega) (by decide)).mp z))]
theorem sX12_isInside_b2 {L : Nat} (hL : L ≤ 400) (e : q_i M 1000 21 = nI L) : ∀ (d i q : Nat), i + d = L → d < q → fX12_isInside_b2 q M (nI i) = some (nI (if exR (fun c => q_a M 1000 20 c) i d then 1 else 0), M) := by
  intro d
  induction d with
  | zero =>
    intro i q h hq
    obtain ⟨q, rfl⟩ : ∃ p, q = p + 1 := ⟨q - 1, by omega⟩
    rw [fX12_isInside_b2, e, if_pos (nI_le (by omega) (by omega))]
    rfl
  | succ d ih =>
    intro i q h hq
    obtain ⟨q, rfl⟩ : ∃ p, q = p + 1 := ⟨q - 1, by omega⟩
    rw [fX12_isInside_b2, e, if_neg (nI_ge (by omega) (by omega)), if_pos (q_inN (show i < 400 by omega) (by decide)), nI_cl (by omega)]
    unfold exR
    by_cases c : q_a M 1000 20 i = nI 91
    · rw [if_neg (show ¬ q_a M 1000 20 i ≠ (91 : Int32) from fun z => z c), decide_eq_true (show (fun c => q_a M 1000 20 c) i = nI 91 from c)]
      rfl
    · rw [if_pos (show q_a M 1000 20 i ≠ (91 : Int32) from c), decide_eq_false (show ¬ (fun c => q_a M 1000 20 c) i = nI 91 from c), Bool.false_or, ← ih (i + 1) q (by omega) (by omega)]
      show fX12_isInside_b2 q M (nI i + nI 1) = _
      rw [nI_add]
theorem sX12_isInside (O : OS M st) (he : eo st) (hl : st.length ≤ 400) : fX12_isInside M = some (nI (if i91 st then 1 else 0), M) := by
  unfold fX12_isInside
  rw [nI0, sX12_isInside_b2 hl O.1 st.length 0 q_F (by omega) (q_Fn (by omega)), exR_91 O.2.2 he]
end STACK
