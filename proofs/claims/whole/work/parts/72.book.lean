/-! QUARRELS and BOOKS: what they are, and how the class holds them -/
/-- a number or nothing -/
def oI (x : Option Nat) : Int32 := match x with
  | none => -1
  | some c => nI c
theorem oI_lt {x : Option Nat} : (oI x) = -1 ∨ ∃ c, x = some c ∧ oI x = nI c := by
  cases x with
  | none => exact Or.inl rfl
  | some c => exact Or.inr ⟨c, rfl, rfl⟩
/-- a quarrel: (first, second, first's code, second's code, ladies), how many moves, the moves, the states behind them -/
abbrev QR : Type := (Nat × Nat × Nat × Nat × Nat) × Nat × (Nat → Nat) × (Nat → ST)
def r_p (Q : QR) (h : Nat) : Nat := if h = 0 then Q.1.1 else Q.1.2.1
def r_c (Q : QR) (h : Nat) : Nat := if h = 0 then Q.1.2.2.1 else Q.1.2.2.2.1
def r_l (Q : QR) : Nat := Q.1.2.2.2.2
def r_n (Q : QR) : Nat := Q.2.1
def r_m (Q : QR) (k : Nat) : Nat := Q.2.2.1 k
def r_s (Q : QR) (k : Nat) : ST := Q.2.2.2 k
def r_now (Q : QR) : ST := r_s Q (r_n Q - 1)
def r_on (Q : QR) : Prop := s_e (r_now Q) = 0
/-- a quarrel as it must be, with np people and nc codes -/
def r_ok (np nc : Nat) (Q : QR) : Prop := r_p Q 0 < np ∧ r_p Q 1 < np ∧ r_p Q 0 ≠ r_p Q 1 ∧ r_c Q 0 < nc ∧ r_c Q 1 < nc ∧ r_l Q < 10 ∧ 0 < r_n Q ∧ r_n Q ≤ 9 ∧ (∀ k, k < r_n Q → r_m Q k < 11 ∧ s_ok (r_s Q k)) ∧ ∀ k, k + 1 < r_n Q → s_e (r_s Q k) = 0 ∧ s_z (r_s Q k) = 0
/-- the class's object o holds the quarrel -/
def RQ1 (M : QM) (o : Nat) (Q : QR) : Prop := q_i M o 2 = nI (r_p Q 0) ∧ q_i M o 3 = nI (r_p Q 1) ∧ q_i M o 4 = nI (r_c Q 0) ∧ q_i M o 5 = nI (r_c Q 1) ∧ q_i M o 6 = nI (r_l Q) ∧ q_i M o 7 = nI (r_n Q) ∧ ∀ k, k < r_n Q → q_a M o 0 k = nI (r_m Q k) ∧ q_a M o 1 k = s_p (r_s Q k)
theorem RQ1.kept {S : Nat → Nat → Prop} {M M1 : QM} {o : Nat} {Q : QR} (h : RQ1 M o Q) (g : kp S M M1) (hs : ∀ j, ¬ S o j) : RQ1 M1 o Q := by
  unfold RQ1 at h ⊢
  rw [g.i (hs 2), g.i (hs 3), g.i (hs 4), g.i (hs 5), g.i (hs 6), g.i (hs 7)]
  exact ⟨h.1, h.2.1, h.2.2.1, h.2.2.2.1, h.2.2.2.2.1, h.2.2.2.2.2.1, fun k hk => by rw [g.a (hs 0), g.a (hs 1)]; exact h.2.2.2.2.2.2 k hk⟩
/-- out of its range -/
abbrev q_out (x : Int32) (n : Nat) : Prop := x < 0 ∨ nI n ≤ x
theorem q_out_or (x : Int32) {n : Nat} (hn : n < 2 ^ 31) : q_out x n ∨ ∃ j : Nat, j < n ∧ x = nI j := (pk_ix x hn).elim (fun h => Or.inl (Or.inl h)) (fun h => h.elim (fun h => Or.inl (Or.inr h)) Or.inr)
theorem sX4_moveAt {M : QM} {o : Nat} {Q : QR} (h : RQ1 M o Q) (hn : r_n Q ≤ 9) {k : Nat} (hk : k < r_n Q) : fX4_moveAt M o (nI k) = some (nI (r_m Q k), M) := by
  unfold fX4_moveAt
  rw [h.2.2.2.2.2.1, if_neg (nI_pos (by omega)), if_neg (nI_ge hk (by omega)), if_neg (show ¬ (9 : Int32) ≤ nI k from nI_ge (b := 9) (by omega) (by omega)), if_pos (q_inN (by omega) (by omega)), nI_cl (by omega), (h.2.2.2.2.2.2 k hk).1]
theorem sX4_moveAtO {M : QM} {o : Nat} {Q : QR} (h : RQ1 M o Q) {x : Int32} (hk : q_out x (r_n Q)) : fX4_moveAt M o x = some (-1, M) := by
  unfold fX4_moveAt
  rw [h.2.2.2.2.2.1]
  by_cases h0 : x < 0
  · rw [if_pos h0]
  · rw [if_neg h0, if_pos (hk.resolve_left h0)]
theorem sX4_stateAt {M : QM} {o : Nat} {Q : QR} (h : RQ1 M o Q) (hn : r_n Q ≤ 9) {k : Nat} (hk : k < r_n Q) : fX4_stateAt M o (nI k) = some (s_p (r_s Q k), M) := by
  unfold fX4_stateAt
  rw [h.2.2.2.2.2.1, if_neg (nI_pos (by omega)), if_neg (nI_ge hk (by omega)), if_neg (show ¬ (9 : Int32) ≤ nI k from nI_ge (b := 9) (by omega) (by omega)), if_pos (q_inN (by omega) (by omega)), nI_cl (by omega), (h.2.2.2.2.2.2 k hk).2]
theorem sX4_now {np nc : Nat} {M : QM} {o : Nat} {Q : QR} (h : RQ1 M o Q) (hQ : r_ok np nc Q) : fX4_now M o = some (s_p (r_now Q), M) := by
  have h0 : 0 < r_n Q := hQ.2.2.2.2.2.2.1
  have h9 : r_n Q ≤ 9 := hQ.2.2.2.2.2.2.2.1
  unfold fX4_now
  rw [h.2.2.2.2.2.1, show (1 : Int32) = nI 1 from rfl, pk_sub (by omega), sX4_stateAt h h9 (by omega), q_b_s]
  rfl
theorem r_ok.now {np nc : Nat} {Q : QR} (hQ : r_ok np nc Q) : s_ok (r_now Q) := (hQ.2.2.2.2.2.2.2.2.1 _ (by have := hQ.2.2.2.2.2.2.1; omega)).2
theorem sX4_goesOn {np nc : Nat} {M : QM} {o : Nat} {Q : QR} (h : RQ1 M o Q) (hQ : r_ok np nc Q) : fX4_goesOn M o = some (if s_e (r_now Q) = 0 then 1 else 0, M) := by
  have h5 : s_e (r_now Q) < 5 := hQ.now.2.2.2.2.2.1
  unfold fX4_goesOn
  rw [sX4_now h hQ, q_b_s, sX7_ending M hQ.now, q_b_s]
  by_cases e : s_e (r_now Q) = 0
  · rw [if_pos e, if_neg (by rw [e]; decide)]
  · rw [if_neg e, if_pos (nI_ne0 (by omega) (by omega))]
theorem sX4_personOn {M : QM} {o : Nat} {Q : QR} (h : RQ1 M o Q) {k : Nat} (hk : k < 2) : fX4_personOn M o (nI k) = some (nI (r_p Q k), M) := by
  unfold fX4_personOn
  match k, hk with
  | 0, _ => rw [if_neg (by decide), h.1]
  | 1, _ => rw [if_pos (by decide), h.2.1]
/-- a book: how many people, how many quarrels; of each person (age, rank, house, kept code, the bits of those he owes); the quarrels -/
abbrev BK : Type := Nat × Nat × (Nat → Nat × Nat × Nat × Option Nat × Nat) × (Nat → QR)
def b_n (B : BK) : Nat := B.1
def b_q (B : BK) : Nat := B.2.1
def b_p (B : BK) (i : Nat) : Nat × Nat × Nat × Option Nat × Nat := B.2.2.1 i
def b_r (B : BK) (q : Nat) : QR := B.2.2.2 q
abbrev b_age (B : BK) (i : Nat) : Nat := (b_p B i).1
abbrev b_rank (B : BK) (i : Nat) : Nat := (b_p B i).2.1
abbrev b_house (B : BK) (i : Nat) : Nat := (b_p B i).2.2.1
abbrev b_code (B : BK) (i : Nat) : Option Nat := (b_p B i).2.2.2.1
abbrev b_owes (B : BK) (i : Nat) : Nat := (b_p B i).2.2.2.2
/-- as it must be, with nc codes -/
def b_ok (nc : Nat) (B : BK) : Prop := b_n B ≤ 12 ∧ b_q B ≤ 24 ∧ (∀ i, i < b_n B → b_age B i < 100 ∧ b_rank B i < 10 ∧ b_house B i < 10 ∧ (∀ c, b_code B i = some c → c < nc) ∧ b_owes B i < 2 ^ b_n B) ∧ ∀ q, q < b_q B → r_ok (b_n B) nc (b_r B q)
/-- the class's rows of a person -/
def RP1 (M : QM) (o i : Nat) (v : Nat × Nat × Nat × Option Nat × Nat) : Prop := q_a M o 0 i = nI v.1 ∧ q_a M o 1 i = nI v.2.1 ∧ q_a M o 2 i = nI v.2.2.1 ∧ q_a M o 3 i = oI v.2.2.2.1 ∧ q_a M o 4 i = nI v.2.2.2.2
/-- the class's book o (20 the one, 21 to 24 the images) holds it -/
def RB1 (M : QM) (o : Nat) (B : BK) : Prop := q_i M o 6 = nI (b_n B) ∧ q_i M o 7 = nI (b_q B) ∧ (∀ i, i < b_n B → RP1 M o i (b_p B i)) ∧ ∀ q, q < b_q B → RQ1 M (el o 5 q) (b_r B q)
section BOOK
variable {nc : Nat} {M : QM} {o : Nat} {B : BK}
theorem sX1_hasPerson (h : RB1 M o B) (hB : b_n B ≤ 12) {i : Nat} (hi : i < b_n B) : fX1_hasPerson M o (nI i) = some (1, M) := by
  unfold fX1_hasPerson
  rw [h.1, if_neg (nI_pos (by omega)), if_neg (nI_ge hi (by omega)), if_neg (show ¬ (12 : Int32) ≤ nI i from nI_ge (b := 12) (by omega) (by omega))]
theorem sX1_hasPersonO (h : RB1 M o B) {x : Int32} (hx : q_out x (b_n B)) : fX1_hasPerson M o x = some (0, M) := by
  unfold fX1_hasPerson
  rw [h.1]
  by_cases h0 : x < 0
  · rw [if_pos h0]
  · rw [if_neg h0, if_pos (hx.resolve_left h0)]
theorem sX1_ageOf (h : RB1 M o B) (hB : b_n B ≤ 12) {i : Nat} (hi : i < b_n B) : fX1_ageOf M o (nI i) = some (nI (b_age B i), M) := by
  unfold fX1_ageOf
  rw [sX1_hasPerson h hB hi, q_b_s, if_neg (by decide), if_pos (q_inN (by omega) (by omega)), nI_cl (by omega), (h.2.2.1 i hi).1]
theorem sX1_rankOf (h : RB1 M o B) (hB : b_n B ≤ 12) {i : Nat} (hi : i < b_n B) : fX1_rankOf M o (nI i) = some (nI (b_rank B i), M) := by
  unfold fX1_rankOf
  rw [sX1_hasPerson h hB hi, q_b_s, if_neg (by decide), if_pos (q_inN (by omega) (by omega)), nI_cl (by omega), (h.2.2.1 i hi).2.1]
theorem sX1_houseOf (h : RB1 M o B) (hB : b_n B ≤ 12) {i : Nat} (hi : i < b_n B) : fX1_houseOf M o (nI i) = some (nI (b_house B i), M) := by
  unfold fX1_houseOf
  rw [sX1_hasPerson h hB hi, q_b_s, if_neg (by decide), if_pos (q_inN (by omega) (by omega)), nI_cl (by omega), (h.2.2.1 i hi).2.2.1]
theorem sX1_codeOf (h : RB1 M o B) (hB : b_n B ≤ 12) {i : Nat} (hi : i < b_n B) : fX1_codeOf M o (nI i) = some (oI (b_code B i), M) := by
  unfold fX1_codeOf
  rw [sX1_hasPerson h hB hi, q_b_s, if_neg (by decide), if_pos (q_inN (by omega) (by omega)), nI_cl (by omega), (h.2.2.1 i hi).2.2.2.1]
theorem sX1_quarrelAt (h : RB1 M o B) (hB : b_q B ≤ 24) {q : Nat} (hq : q < b_q B) : fX1_quarrelAt M o (nI q) = some (some (el o 5 q), M) := by
  unfold fX1_quarrelAt
  rw [h.2.1, if_neg (nI_pos (by omega)), if_neg (nI_ge hq (by omega)), if_neg (show ¬ (24 : Int32) ≤ nI q from nI_ge (b := 24) (by omega) (by omega)), if_pos (q_inN (by omega) (by omega)), nI_cl (by omega)]
theorem sX1_quarrelAtO (h : RB1 M o B) {x : Int32} (hx : q_out x (b_q B)) : fX1_quarrelAt M o x = some (none, M) := by
  unfold fX1_quarrelAt
  rw [h.2.1]
  by_cases h0 : x < 0
  · rw [if_pos h0]
  · rw [if_neg h0, if_pos (hx.resolve_left h0)]
/-- the bit j of what i owes -/
theorem sX1_isOwing (h : RB1 M o B) (hB : b_ok nc B) {i j : Nat} (hi : i < b_n B) (hj : j < b_n B) : fX1_isOwing M o (nI i) (nI j) = some (nI (b_owes B i / 2 ^ j % 2), M) := by
  have hn := hB.1
  have hw : b_owes B i < 2 ^ 12 := Nat.lt_of_lt_of_le (hB.2.2.1 i hi).2.2.2.2 (Nat.pow_le_pow_right (by decide) hn)
  have hj31 : ∀ j, j < 12 → ((nI j &&& (31 : Int32)).toBitVec.smod 32).toNat = j := by decide
  simp only [fX1_isOwing, q_t]
  rw [sX1_hasPerson h hn hi, q_b_s, if_neg (by decide), sX1_hasPerson h hn hj, q_b_s, if_neg (by decide), if_pos (q_inN (by omega) (by omega)), nI_cl (by omega), (h.2.2.1 i hi).2.2.2.2,
    s_and (Nat.lt_of_lt_of_le hw (by decide)) 1 (by decide) (hj31 j (by omega))]
  have h2 : b_owes B i / 2 ^ j % 2 ^ 1 < 2 := Nat.mod_lt _ (by decide)
  rw [show b_owes B i / 2 ^ j % 2 = b_owes B i / 2 ^ j % 2 ^ 1 from rfl]
  generalize b_owes B i / 2 ^ j % 2 ^ 1 = v at h2 ⊢
  match v, h2 with
  | 0, _ => rw [if_pos (by decide)]; rfl
  | 1, _ => rw [if_neg (by decide)]; rfl
end BOOK
