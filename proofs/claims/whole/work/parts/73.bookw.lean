/-! what the class writes into a BOOK -/
def fU {α : Type} (f : Nat → α) (k : Nat) (v : α) : Nat → α := fun j => if j = k then v else f j
theorem fU_s {α : Type} (f : Nat → α) (k : Nat) (v : α) : fU f k v k = v := if_pos rfl
theorem fU_n {α : Type} (f : Nat → α) {k j : Nat} (v : α) (h : j ≠ k) : fU f k v j = f j := if_neg h
def bA (B : BK) (v : Nat × Nat × Nat × Option Nat × Nat) : BK := (b_n B + 1, b_q B, fU B.2.2.1 (b_n B) v, B.2.2.2)
/-- a person is told anew -/
def bP (B : BK) (i : Nat) (v : Nat × Nat × Nat × Option Nat × Nat) : BK := (b_n B, b_q B, fU B.2.2.1 i v, B.2.2.2)
/-- one quarrel more -/
def bQ (B : BK) (Q : QR) : BK := (b_n B, b_q B + 1, B.2.2.1, fU B.2.2.2 (b_q B) Q)
/-- a quarrel goes on -/
def bR (B : BK) (q : Nat) (Q : QR) : BK := (b_n B, b_q B, B.2.2.1, fU B.2.2.2 q Q)
theorem el_qN {o : Nat} (h : 20 ≤ o) (q : Nat) : el o 5 q = 100 + 24 * (o - 20) + q := if_neg (by omega)
/-- only rows and counts of the book itself are written -/
theorem RB1.quarrels {M M1 : QM} {o : Nat} {B : BK} (h : RB1 M o B) (ho : 20 ≤ o) (ho2 : o < 25) (g : kp (fun a _ => a = o) M M1) : ∀ q, q < b_q B → RQ1 M1 (el o 5 q) (b_r B q) := fun q hq =>
  (h.2.2.2 q hq).kept g (fun _ e => by have e : el o 5 q = o := e; rw [el_qN ho] at e; omega)
theorem bA_s (B : BK) (v : Nat × Nat × Nat × Option Nat × Nat) : b_p (bA B v) (b_n B) = v := fU_s _ _ _
theorem bA_n (B : BK) (v : Nat × Nat × Nat × Option Nat × Nat) {i : Nat} (h : i ≠ b_n B) : b_p (bA B v) i = b_p B i := fU_n _ _ h
theorem bP_s (B : BK) (k : Nat) (v : Nat × Nat × Nat × Option Nat × Nat) : b_p (bP B k v) k = v := fU_s _ _ _
theorem bP_n (B : BK) (v : Nat × Nat × Nat × Option Nat × Nat) {k i : Nat} (h : i ≠ k) : b_p (bP B k v) i = b_p B i := fU_n _ _ h
section BOOKW
variable {nc : Nat} {M : QM} {o : Nat} {B : BK}
theorem sX1_addPerson (h : RB1 M o B) (ho : 20 ≤ o) (ho2 : o < 25) (hB : b_n B < 12) (a r c : Nat) : qW (fX1_addPerson M o (nI a) (nI r) (nI c)) (fun v M1 => v = nI (b_n B) ∧ RB1 M1 o (bA B (a, r, c, none, 0)) ∧ kp (fun x _ => x = o) M M1) := by
  have c1 : ¬ nI (b_n B) < 0 := nI_pos (by omega)
  have c2 : nI (b_n B) < (12 : Int32) := nI_lt (b := 12) hB (by omega)
  have c3 : q_in (nI (b_n B)) 12 := q_inN hB (by omega)
  have c4 : (nI (b_n B)).toNatClampNeg = b_n B := nI_cl (by omega)
  have g : kp (fun x _ => x = o) M (p_i (p_a (p_a (p_a (p_a (p_a M o 0 (b_n B) (nI a)) o 1 (b_n B) (nI r)) o 2 (b_n B) (nI c)) o 3 (b_n B) (-1)) o 4 (b_n B) 0) o 6 (nI (b_n B + 1))) := by
    refine kp.tr (kp.tr (kp.tr (kp.tr (kp.tr (kp_a ?_) (kp_a ?_)) (kp_a ?_)) (kp_a ?_)) (kp_a ?_)) (kp_i ?_) <;> rfl
  simp only [fX1_addPerson, q_t, q_i_p_a, h.1, if_neg c1, if_pos c2, if_pos c3, c4, nI_1]
  refine ⟨_, _, rfl, rfl, ⟨?_, ?_, fun i hi => ?_, h.quarrels ho ho2 g⟩, g⟩
  · simp only [q_i_p_i, and_self, if_true]; rfl
  · simp only [q_i_p_i, q_i_p_a]
    rw [if_neg (by decide)]
    exact h.2.1
  · unfold RP1
    simp only [q_a_p_i, q_a_p_a, true_and]
    by_cases e : i = b_n B
    · subst e
      rw [bA_s]
      simp [oI]
      rfl
    · rw [bA_n B _ e]
      have hi : i < b_n B := by
        have hi : i < b_n B + 1 := hi
        omega
      simp only [e, and_false, if_false]
      exact h.2.2.1 i hi
theorem sX1_setCode (h : RB1 M o B) (ho : 20 ≤ o) (ho2 : o < 25) (hB : b_n B ≤ 12) {i : Nat} (hi : i < b_n B) (c : Option Nat) : qV (fX1_setCode M o (nI i) (oI c)) (fun M1 => RB1 M1 o (bP B i (b_age B i, b_rank B i, b_house B i, c, b_owes B i)) ∧ kp (fun x _ => x = o) M M1) := by
  have g : kp (fun x _ => x = o) M (p_a M o 3 i (oI c)) := by
    refine kp_a ?_
    rfl
  simp only [fX1_setCode, q_t]
  rw [sX1_hasPerson h hB hi, q_b_s, if_neg (by decide), if_pos (q_inN (by omega) (by omega)), nI_cl (by omega)]
  refine ⟨_, rfl, ⟨h.1, h.2.1, fun k hk => ?_, h.quarrels ho ho2 g⟩, g⟩
  have gk := h.2.2.1 k hk
  unfold RP1 at gk ⊢
  simp only [q_a_p_a, true_and]
  by_cases e : k = i
  · subst e
    rw [bP_s]
    simp
    exact ⟨gk.1, gk.2.1, gk.2.2.1, gk.2.2.2.2⟩
  · rw [bP_n B _ e]
    simp only [e, and_false, if_false]
    exact gk
theorem oBit (x j : Nat) (hj : j < 12) (hx : x < 2 ^ 12) : nI x ||| ((1 : Int32) <<< (nI j &&& (31 : Int32))) = nI (x ||| 2 ^ j) := by
  have hj31 : ∀ j, j < 12 → ((nI j &&& (31 : Int32)).toBitVec.smod 32).toNat = j := by decide
  have h2 : 2 ^ j < 2 ^ 12 := Nat.pow_lt_pow_right (by decide) hj
  rw [show (1 : Int32) = nI 1 from rfl, pk_shlN _ j (hj31 j hj) (by omega), Nat.one_mul, nI_or]
/-- who: the bits of those he owes, with and without one -/
theorem aBit (x j : Nat) (hj : j < 12) (hx : x < 2 ^ 12) : nI x &&& (((1 : Int32) <<< (nI j &&& (31 : Int32))) ^^^ (-1 : Int32)) = nI (x &&& (4095 ^^^ 2 ^ j)) := by
  have : ∀ a, a < 64 → ∀ b, b < 64 → ∀ j, j < 12 → nI (64 * a + b) &&& (((1 : Int32) <<< (nI j &&& (31 : Int32))) ^^^ (-1 : Int32)) = nI ((64 * a + b) &&& (4095 ^^^ 2 ^ j)) := by decide +kernel
  have h := this (x / 64) (by omega) (x % 64) (by omega) j hj
  rw [Nat.div_add_mod x 64] at h
  exact h
end BOOKW
