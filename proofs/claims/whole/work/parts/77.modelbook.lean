/-! the reference's BOOK, and its leaves -/
theorem sX12_in (M : QM) (x : Int32) (a b : Nat) (ha : a < 2 ^ 31) (hb : b < 2 ^ 31) : fX12_in M (Int32.toInt64 x) (lN a) (lN b) = some (if nI a ≤ x ∧ x ≤ nI b then 1 else 0, M) := by
  have e1 : Int32.toInt64 x < lN a ↔ x.toInt < (a : Int) := by
    rw [Int64.lt_iff_toInt_lt, Int32.toInt_toInt64, lN_toInt ha]
  have e2 : lN b < Int32.toInt64 x ↔ (b : Int) < x.toInt := by
    rw [Int64.lt_iff_toInt_lt, Int32.toInt_toInt64, lN_toInt hb]
  have e3 : nI a ≤ x ↔ (a : Int) ≤ x.toInt := by rw [Int32.le_iff_toInt_le, nI_toInt ha]
  have e4 : x ≤ nI b ↔ x.toInt ≤ (b : Int) := by rw [Int32.le_iff_toInt_le, nI_toInt hb]
  have c1 : lg_cmp (Int32.toInt64 x) (lN a) < 0 ↔ x.toInt < (a : Int) := by
    unfold lg_cmp
    by_cases g : Int32.toInt64 x > lN a
    · rw [if_pos g]
      have g1 : lN a < Int32.toInt64 x := g
      rw [Int64.lt_iff_toInt_lt, Int32.toInt_toInt64, lN_toInt ha] at g1
      exact ⟨fun z => absurd z (by decide), fun z => by omega⟩
    · rw [if_neg g]
      have g1 : ¬ lN a < Int32.toInt64 x := g
      rw [Int64.lt_iff_toInt_lt, Int32.toInt_toInt64, lN_toInt ha] at g1
      by_cases e : Int32.toInt64 x = lN a
      · rw [if_pos e]
        have := congrArg Int64.toInt e
        rw [Int32.toInt_toInt64, lN_toInt ha] at this
        exact ⟨fun z => absurd z (by decide), fun z => by omega⟩
      · rw [if_neg e]
        have : x.toInt ≠ (a : Int) := fun z => e (Int64.toInt_inj.mp (by rw [Int32.toInt_toInt64, lN_toInt ha]; exact z))
        exact ⟨fun _ => by omega, fun _ => by decide⟩
  have c2 : 0 < lg_cmp (Int32.toInt64 x) (lN b) ↔ (b : Int) < x.toInt := by
    unfold lg_cmp
    by_cases g : Int32.toInt64 x > lN b
    · rw [if_pos g]
      exact ⟨fun _ => e2.mp g, fun _ => by decide⟩
    · rw [if_neg g]
      have g1 : ¬ (b : Int) < x.toInt := fun z => g (e2.mpr z)
      by_cases e : Int32.toInt64 x = lN b
      · rw [if_pos e]
        exact ⟨fun z => absurd z (by decide), fun z => absurd z g1⟩
      · rw [if_neg e]
        exact ⟨fun z => absurd z (by decide), fun z => absurd z g1⟩
  unfold fX12_in
  by_cases h1 : x.toInt < (a : Int)
  · rw [if_pos (c1.mpr h1), if_neg (fun z => by have := e3.mp z.1; omega)]
  · rw [if_neg (fun z => h1 (c1.mp z))]
    by_cases h2 : (b : Int) < x.toInt
    · rw [if_pos (c2.mpr h2), if_neg (fun z => by have := e4.mp z.2; omega)]
    · rw [if_neg (fun z => h2 (c2.mp z)), if_pos ⟨e3.mpr (by omega), e4.mpr (by omega)⟩]
theorem sX11_isWithin (M : QM) (x a b : Int32) : fX11_isWithin M x a b = some (if a ≤ x ∧ x ≤ b then 1 else 0, M) := by
  unfold fX11_isWithin
  by_cases h1 : x < a
  · rw [if_pos h1, if_neg (fun z => Int32.not_le.mpr h1 z.1)]
  · rw [if_neg h1]
    by_cases h2 : b < x
    · rw [if_pos h2, if_neg (fun z => Int32.not_le.mpr h2 z.2)]
    · rw [if_neg h2, if_pos ⟨Int32.not_lt.mp h1, Int32.not_lt.mp h2⟩]
/-- a quarrel in a row of 64 -/
def RQ2 (T : Nat → Int32) (q : Nat) (Q : QR) : Prop := T (64 * q) = nI (r_p Q 0) ∧ T (64 * q + 1) = nI (r_p Q 1) ∧ T (64 * q + 2) = nI (r_l Q) ∧ T (64 * q + 3) = nI (r_c Q 0) ∧ T (64 * q + 4) = nI (r_c Q 1) ∧ T (64 * q + 5) = nI (r_n Q) ∧ T (64 * q + 6) = nI (s_e (r_now Q)) ∧ T (64 * q + 7) = nI (s_z (r_now Q)) ∧
  ∀ k, k < r_n Q → T (64 * q + 8 + k) = nI (r_m Q k) ∧ T (64 * q + 17 + 5 * k) = nI (s_o (r_s Q k) 0) ∧ T (64 * q + 17 + 5 * k + 1) = nI (s_o (r_s Q k) 1) ∧ (s_e (r_s Q k) = 0 → T (64 * q + 17 + 5 * k + 2) = nI (s_t (r_s Q k))) ∧ T (64 * q + 17 + 5 * k + 3) = nI (s_k (r_s Q k)) - 1 ∧ T (64 * q + 17 + 5 * k + 4) = nI (s_l (r_s Q k))
/-- a person in a row of 4 and one of 12 -/
def RP2 (P O : Nat → Int32) (n i : Nat) (v : Nat × Nat × Nat × Option Nat × Nat) : Prop := P (4 * i) = nI v.1 ∧ P (4 * i + 1) = nI v.2.1 ∧ P (4 * i + 2) = nI v.2.2.1 ∧ P (4 * i + 3) = oI v.2.2.2.1 ∧ ∀ j, j < n → O (12 * i + j) = nI (v.2.2.2.2 / 2 ^ j % 2)
/-- a book in rows of persons, debts, quarrels -/
def RB2 (P O T : Nat → Int32) (n q : Int32) (B : BK) : Prop := n = nI (b_n B) ∧ q = nI (b_q B) ∧ (∀ i, i < b_n B → RP2 P O (b_n B) i (b_p B i)) ∧ ∀ k, k < b_q B → RQ2 T k (b_r B k)
/-- the reference's own book -/
def RM2 (M : QM) (B : BK) : Prop := RB2 (fun i => q_a M 1000 1 i) (fun i => q_a M 1000 2 i) (fun i => q_a M 1000 43 i) (q_i M 1000 0) (q_i M 1000 42) B
section MODEL
variable {nc : Nat} {M : QM} {B : BK}
theorem sX12_isPerson (h : RM2 M B) (hB : b_n B ≤ 12) {i : Nat} (hi : i < b_n B) : fX12_isPerson M (nI i) = some (1, M) := by
  unfold fX12_isPerson
  rw [h.1, if_neg (nI_pos (by omega)), if_neg (nI_ge hi (by omega))]
theorem sX12_isPersonO (h : RM2 M B) {x : Int32} (hx : q_out x (b_n B)) : fX12_isPerson M x = some (0, M) := by
  unfold fX12_isPerson
  rw [h.1]
  by_cases h0 : x < 0
  · rw [if_pos h0]
  · rw [if_neg h0, if_pos (hx.resolve_left h0)]
theorem sX12_isQuarrel (h : RM2 M B) (hB : b_q B ≤ 24) {i : Nat} (hi : i < b_q B) : fX12_isQuarrel M (nI i) = some (1, M) := by
  unfold fX12_isQuarrel
  rw [h.2.1, if_neg (nI_pos (by omega)), if_neg (nI_ge hi (by omega))]
theorem sX12_isQuarrelO (h : RM2 M B) {x : Int32} (hx : q_out x (b_q B)) : fX12_isQuarrel M x = some (0, M) := by
  unfold fX12_isQuarrel
  rw [h.2.1]
  by_cases h0 : x < 0
  · rw [if_pos h0]
  · rw [if_neg h0, if_pos (hx.resolve_left h0)]
/-- areTwo: both are people, and not the same -/
def aTwo (n : Nat) (x y : Int32) : Prop := ∃ i j : Nat, i < n ∧ j < n ∧ i ≠ j ∧ x = nI i ∧ y = nI j
theorem sX12_areTwo (h : RM2 M B) (hB : b_n B ≤ 12) {i j : Nat} (hi : i < b_n B) (hj : j < b_n B) (hij : i ≠ j) : fX12_areTwo M (nI i) (nI j) = some (1, M) := by
  unfold fX12_areTwo
  rw [sX12_isPerson h hB hi, q_b_s, if_neg (by decide), sX12_isPerson h hB hj, q_b_s, if_neg (by decide), if_neg (fun z => hij ((nI_eq (by omega) (by omega)).mp z))]
theorem sX12_areTwoO (h : RM2 M B) (hB : b_n B ≤ 12) {x y : Int32} (hx : ¬ aTwo (b_n B) x y) : fX12_areTwo M x y = some (0, M) := by
  unfold fX12_areTwo
  rcases q_out_or x (n := b_n B) (by omega) with ox | ⟨i, hi, rfl⟩
  · rw [sX12_isPersonO h ox, q_b_s, if_pos rfl]
  · rw [sX12_isPerson h hB hi, q_b_s, if_neg (by decide)]
    rcases q_out_or y (n := b_n B) (by omega) with oy | ⟨j, hj, rfl⟩
    · rw [sX12_isPersonO h oy, q_b_s, if_pos rfl]
    · rw [sX12_isPerson h hB hj, q_b_s, if_neg (by decide)]
      by_cases e : i = j
      · rw [if_pos (by rw [e])]
      · exact absurd ⟨i, j, hi, hj, e, rfl, rfl⟩ hx
theorem sX11_areTwo {M : QM} (h : RB1 M 20 B) (hB : b_n B ≤ 12) {i j : Nat} (hi : i < b_n B) (hj : j < b_n B) (hij : i ≠ j) : fX11_areTwo M (nI i) (nI j) = some (1, M) := by
  unfold fX11_areTwo
  rw [if_neg (fun z => hij ((nI_eq (by omega) (by omega)).mp z)), sX1_hasPerson h hB hi, q_b_s, if_neg (by decide), sX1_hasPerson h hB hj, q_b_s, if_neg (by decide)]
theorem sX11_areTwoO {M : QM} (h : RB1 M 20 B) (hB : b_n B ≤ 12) {x y : Int32} (hx : ¬ aTwo (b_n B) x y) : fX11_areTwo M x y = some (0, M) := by
  unfold fX11_areTwo
  by_cases e : x = y
  · rw [if_pos e]
  · rw [if_neg e]
    rcases q_out_or x (n := b_n B) (by omega) with ox | ⟨i, hi, rfl⟩
    · rw [sX1_hasPersonO h ox, q_b_s, if_pos rfl]
    · rw [sX1_hasPerson h hB hi, q_b_s, if_neg (by decide)]
      rcases q_out_or y (n := b_n B) (by omega) with oy | ⟨j, hj, rfl⟩
      · rw [sX1_hasPersonO h oy, q_b_s, if_pos (by decide)]
      · exact absurd ⟨i, j, hi, hj, fun z => e (by rw [z]), rfl, rfl⟩ hx
theorem sX12_isOn (h : RM2 M B) (hB : b_ok nc B) {q : Nat} (hq : q < b_q B) : fX12_isOn M (nI q) = some (if s_e (r_now (b_r B q)) = 0 then 1 else 0, M) := by
  have h24 := hB.2.1
  have h5 : s_e (r_now (b_r B q)) < 5 := (hB.2.2.2 q hq).now.2.2.2.2.2.1
  have e1 : (64 : Int32) * nI q + (6 : Int32) = nI (64 * q + 6) := by
    rw [show (64 : Int32) = nI 64 from rfl, show (6 : Int32) = nI 6 from rfl, pk_mul, nI_add]
  have e2 : q_a M 1000 43 (64 * q + 6) = nI (s_e (r_now (b_r B q))) := (h.2.2.2 q hq).2.2.2.2.2.2.1
  unfold fX12_isOn
  rw [e1, if_pos (q_inN (by omega) (by omega)), nI_cl (by omega), e2]
  by_cases e : s_e (r_now (b_r B q)) = 0
  · rw [if_pos e, if_neg (by rw [e]; decide)]
  · rw [if_neg e, if_pos (nI_ne0 (by omega) (by omega))]
end MODEL
