/-! debts as bits; quarrels added -/
theorem bb_t (x k : Nat) : x / 2 ^ k % 2 = if x.testBit k then 1 else 0 := by
  rw [Nat.testBit_eq_decide_div_mod_eq]
  have h : x / 2 ^ k % 2 < 2 := Nat.mod_lt _ (by decide)
  generalize x / 2 ^ k % 2 = v at h ⊢
  match v, h with
  | 0, _ => rfl
  | 1, _ => rfl
theorem bb_on (x j k : Nat) : (x ||| 2 ^ j) / 2 ^ k % 2 = if k = j then 1 else x / 2 ^ k % 2 := by
  rw [bb_t, bb_t, Nat.testBit_or, Nat.testBit_two_pow]
  by_cases e : k = j
  · simp [e]
  · have e2 : ¬ j = k := fun z => e z.symm
    simp [e, e2]
theorem bb_off (x j k : Nat) (hk : k < 12) : (x &&& (4095 ^^^ 2 ^ j)) / 2 ^ k % 2 = if k = j then 0 else x / 2 ^ k % 2 := by
  rw [bb_t, bb_t, Nat.testBit_and, Nat.testBit_xor, Nat.testBit_two_pow, show 4095 = 2 ^ 12 - 1 from rfl, Nat.testBit_two_pow_sub_one]
  by_cases e : k = j
  · subst e
    simp [hk]
  · have e2 : ¬ j = k := fun z => e z.symm
    simp [e, e2, hk]
theorem bb_zero {x n k : Nat} (hx : x < 2 ^ n) (hk : n ≤ k) : x / 2 ^ k % 2 = 0 := by
  rw [Nat.div_eq_of_lt (Nat.lt_of_lt_of_le hx (Nat.pow_le_pow_right (by decide) hk))]
/-- the debts of i, with one to j told or not -/
def bD (x j : Nat) (is : Bool) : Nat := if is then x ||| 2 ^ j else x &&& (4095 ^^^ 2 ^ j)
theorem bD_lt {x j n : Nat} (hx : x < 2 ^ n) (hj : j < n) (is : Bool) : bD x j is < 2 ^ n := by
  unfold bD
  split
  · exact Nat.or_lt_two_pow hx (Nat.pow_lt_pow_right (by decide) hj)
  · exact Nat.lt_of_le_of_lt Nat.and_le_left hx
theorem bD_bit {x j k : Nat} (hk : k < 12) (is : Bool) : bD x j is / 2 ^ k % 2 = if k = j then (if is then 1 else 0) else x / 2 ^ k % 2 := by
  unfold bD
  cases is with
  | true => simp only [if_true]; exact bb_on x j k
  | false => simp only [Bool.false_eq_true, if_false]; exact bb_off x j k hk
section BOOKX
variable {nc : Nat} {M : QM} {o : Nat} {B : BK}
theorem sX1_setOwing (h : RB1 M o B) (ho : 20 ≤ o) (ho2 : o < 25) (hB : b_ok nc B) {i j : Nat} (hi : i < b_n B) (hj : j < b_n B) (is : Bool) : qV (fX1_setOwing M o (nI i) (nI j) (if is then 1 else 0)) (fun M1 => RB1 M1 o (bP B i (b_age B i, b_rank B i, b_house B i, b_code B i, bD (b_owes B i) j is)) ∧ kp (fun x _ => x = o) M M1) := by
  have hn := hB.1
  have hw : b_owes B i < 2 ^ 12 := Nat.lt_of_lt_of_le (hB.2.2.1 i hi).2.2.2.2 (Nat.pow_le_pow_right (by decide) hn)
  have key : qV (some (p_a M o 4 i (nI (bD (b_owes B i) j is)))) (fun M1 => RB1 M1 o (bP B i (b_age B i, b_rank B i, b_house B i, b_code B i, bD (b_owes B i) j is)) ∧ kp (fun x _ => x = o) M M1) := by
    have g : kp (fun x _ => x = o) M (p_a M o 4 i (nI (bD (b_owes B i) j is))) := by
      refine kp_a ?_
      rfl
    refine ⟨_, rfl, ⟨h.1, h.2.1, fun k hk => ?_, h.quarrels ho ho2 g⟩, g⟩
    have gk := h.2.2.1 k hk
    unfold RP1 at gk ⊢
    simp only [q_a_p_a, true_and]
    by_cases e : k = i
    · subst e
      rw [bP_s]
      simp
      exact ⟨gk.1, gk.2.1, gk.2.2.1, gk.2.2.2.1⟩
    · rw [bP_n B _ e]
      simp only [e, and_false, if_false]
      exact gk
  simp only [fX1_setOwing, fX1_setOwing_b53, q_t]
  rw [sX1_hasPerson h hn hi, q_b_s, if_neg (by decide), sX1_hasPerson h hn hj, q_b_s, if_neg (by decide)]
  have c3 : q_in (nI i) 12 := q_inN (by omega) (by omega)
  have c4 : (nI i).toNatClampNeg = i := nI_cl (by omega)
  simp only [if_pos c3, c4, (h.2.2.1 i hi).2.2.2.2]
  cases is with
  | true =>
    rw [if_neg (by decide), oBit _ _ (by omega) hw]
    exact key
  | false =>
    rw [if_pos (by decide), aBit _ _ (by omega) hw]
    exact key
/-- a quarrel is added, without a history yet -/
theorem sX1_addQuarrel (h : RB1 M o B) (ho : 20 ≤ o) (ho2 : o < 25) (hB : b_ok nc B) (hq : b_q B < 24) {f s d : Nat} (hf : f < b_n B) (hs : s < b_n B) {cf cs : Nat} (ef : b_code B f = some cf) (es : b_code B s = some cs) :
    qW (fX1_addQuarrel M o (nI f) (nI s) (nI d)) (fun v M1 => v = nI (b_q B) ∧ RB1 M1 o (bQ B ((f, s, cf, cs, d), 0, fun _ => 0, fun _ => (0, 0, 0, 0, 0, 0, 0))) ∧ kp (fun x j => (x = o ∧ j = 7) ∨ x = el o 5 (b_q B)) M M1) := by
  have hn := hB.1
  have c1 : ¬ nI (b_q B) < 0 := nI_pos (by omega)
  have c2 : nI (b_q B) < (24 : Int32) := nI_lt (b := 24) hq (by omega)
  have c3 : q_in (nI (b_q B)) 24 := q_inN hq (by omega)
  have c4 : (nI (b_q B)).toNatClampNeg = b_q B := nI_cl (by omega)
  have ee := el_qN ho (b_q B)
  have eo : ¬ o = el o 5 (b_q B) := by omega
  have eo2 : ¬ el o 5 (b_q B) = o := by omega
  have K3 : ∀ {M1 : QM}, kp (fun x j => (x = o ∧ j = 7) ∨ x = el o 5 (b_q B)) M M1 → q_i M1 o 7 = q_i M o 7 → RB1 M1 o B := fun {M1} g e7 => by
    refine ⟨(g.i (fun z => ?_)).trans h.1, e7.trans h.2.1, fun i hi => ?_, fun q hq2 => (h.2.2.2 q hq2).kept g (fun j z => ?_)⟩
    · rcases z with z | z
      · exact absurd z.2 (by decide)
      · exact eo z
    · have gi := h.2.2.1 i hi
      have no : ∀ j, j ≠ 7 → ¬ ((o = o ∧ j = 7) ∨ o = el o 5 (b_q B)) := fun j hj z => z.elim (fun z => hj z.2) eo
      unfold RP1 at gi ⊢
      rw [g.a (no 0 (by decide)), g.a (no 1 (by decide)), g.a (no 2 (by decide)), g.a (no 3 (by decide)), g.a (no 4 (by decide))]
      exact gi
    · have e1 := el_qN ho q
      rcases z with z | z
      · have := z.1
        omega
      · have : el o 5 q = el o 5 (b_q B) := z
        omega
  have step : ∀ {M1 : QM} (j : Nat) (v : Int32), kp (fun x j => (x = o ∧ j = 7) ∨ x = el o 5 (b_q B)) M M1 → kp (fun x j => (x = o ∧ j = 7) ∨ x = el o 5 (b_q B)) M (p_i M1 (el o 5 (b_q B)) j v) := fun j v g => g.tr (kp_i (Or.inr rfl))
  have d1 := step 2 (nI f) (kp.rf)
  have d2 := step 3 (nI s) d1
  have r2 := K3 d2 (by simp only [q_i_p_i, eo, false_and, if_false])
  have d3 := step 4 (nI cf) d2
  have r3 := K3 d3 (by simp only [q_i_p_i, eo, false_and, if_false])
  have d4 := step 5 (nI cs) d3
  have d5 := step 6 (nI d) d4
  have d6 := step 7 0 d5
  have d7 : kp (fun x j => (x = o ∧ j = 7) ∨ x = el o 5 (b_q B)) M _ := d6.tr (kp_i (o := o) (j := 7) (v := nI (b_q B + 1)) (Or.inl ⟨rfl, rfl⟩))
  simp only [fX1_addQuarrel, q_t, h.2.1, if_neg c1, if_pos c2, if_pos c3, c4]
  rw [sX1_codeOf r2 hn hf, q_b_s, ef]
  refine qW_e (sX1_codeOf r3 hn hs) ?_
  rw [es]
  refine qW_s ⟨rfl, ?_, ?_⟩
  · have e8 : ∀ M : QM, ∀ j v, q_i (p_i M (el o 5 (b_q B)) j v) o 7 = q_i M o 7 := fun M j v => by simp only [q_i_p_i, eo, false_and, if_false]
    have r6 := K3 d6 (by simp only [e8])
    simp only [oI, e8, h.2.1, nI_1]
    refine ⟨?_, ?_, fun i hi => ?_, fun q hq2 => ?_⟩
    · rw [q_i_p_i, if_neg (by omega)]
      exact r6.1
    · rw [q_i_p_i, if_pos ⟨rfl, rfl⟩]
      rfl
    · exact r6.2.2.1 i hi
    · by_cases e : q = b_q B
      · subst e
        have e1 : b_r (bQ B ((f, s, cf, cs, d), 0, fun _ => 0, fun _ => (0, 0, 0, 0, 0, 0, 0))) (b_q B) = ((f, s, cf, cs, d), 0, fun _ => 0, fun _ => (0, 0, 0, 0, 0, 0, 0)) := fU_s _ _ _
        rw [e1]
        unfold RQ1
        simp only [q_i_p_i, eo2, false_and, if_false, true_and]
        exact ⟨rfl, rfl, rfl, rfl, rfl, rfl, fun k hk => absurd hk (Nat.not_lt_zero k)⟩
      · have e1 : b_r (bQ B ((f, s, cf, cs, d), 0, fun _ => 0, fun _ => (0, 0, 0, 0, 0, 0, 0))) q = b_r B q := fU_n _ _ e
        rw [e1]
        have hq3 : q < b_q B := by
          have : q < b_q B + 1 := hq2
          omega
        refine (h.2.2.2 q hq3).kept d7 (fun j z => ?_)
        have e1 := el_qN ho q
        rcases z with z | z
        · have := z.1
          omega
        · have : el o 5 q = el o 5 (b_q B) := z
          omega
  · have e8 : ∀ M : QM, ∀ j v, q_i (p_i M (el o 5 (b_q B)) j v) o 7 = q_i M o 7 := fun M j v => by simp only [q_i_p_i, eo, false_and, if_false]
    simp only [oI, e8, h.2.1, nI_1]
    exact d7
end BOOKX
