/-! goingOn, takenFirst, waitedFor: what they are, and that the class answers so -/
def cOn (B : BK) : Nat → Nat
  | 0 => 0
  | n + 1 => cOn B n + if s_e (r_now (b_r B n)) = 0 then 1 else 0
theorem cOn_le (B : BK) (n : Nat) : cOn B n ≤ n := by
  induction n with
  | zero => exact Nat.le_refl _
  | succ n ih =>
    unfold cOn
    split <;> omega
/-- the side of one of both -/
def r_side (Q : QR) (p : Nat) : Option Nat := if p = r_p Q 0 then some 0 else if p = r_p Q 1 then some 1 else none
/-- what counts of a quarrel for one of both -/
def r_w (B : BK) (Q : QR) (k : Nat) : Nat := 10 * s_o (r_now Q) k + b_rank B (r_p Q (1 - k))
/-- the quarrel that a person takes first among the first n, and what it counts -/
def tF (B : BK) (p : Nat) : Nat → Option (Nat × Nat)
  | 0 => none
  | n + 1 => match r_side (b_r B n) p with
    | none => tF B p n
    | some k => if s_e (r_now (b_r B n)) = 0 then (match tF B p n with
        | none => some (n, r_w B (b_r B n) k)
        | some (t, m) => if r_w B (b_r B n) k ≤ m then some (t, m) else some (n, r_w B (b_r B n) k)) else tF B p n
def tI (x : Option (Nat × Nat)) : Int32 := match x with
  | none => -2
  | some (t, _) => nI t
def tM (x : Option (Nat × Nat)) : Int32 := match x with
  | none => -1
  | some (_, m) => nI m
theorem r_side_lt {Q : QR} {p k : Nat} (h : r_side Q p = some k) : k < 2 := by
  unfold r_side at h
  split at h
  · cases h; decide
  · split at h
    · cases h; decide
    · cases h
section TAKEN
variable {nc : Nat} {M : QM} {o : Nat} {B : BK}
theorem r_w_lt (hB : b_ok nc B) {q k : Nat} (hq : q < b_q B) (hk : k < 2) : r_w B (b_r B q) k < 200 := by
  have hQ := hB.2.2.2 q hq
  have h1 := s_ol hQ.now k
  have h2 : r_p (b_r B q) (1 - k) < b_n B := by
    match k, hk with
    | 0, _ => exact hQ.2.1
    | 1, _ => exact hQ.1
  have h3 := (hB.2.2.1 _ h2).2.1
  unfold r_w
  have h4 : b_rank B (r_p (b_r B q) (1 - k)) < 10 := h3
  generalize b_rank B (r_p (b_r B q) (1 - k)) = u at h4 ⊢
  omega
theorem tF_ok (hB : b_ok nc B) (p : Nat) : ∀ n, n ≤ b_q B → ∀ t m, tF B p n = some (t, m) → t < n ∧ m < 200 := by
  intro n
  induction n with
  | zero => intro _ t m h; cases h
  | succ n ih =>
    intro hn t m h
    have hi := ih (by omega)
    unfold tF at h
    split at h
    · have := hi t m h
      omega
    · rename_i k hk
      have hw := r_w_lt hB (q := n) (by omega) (r_side_lt hk)
      split at h
      · split at h
        · cases h
          omega
        · rename_i t1 m1 e
          split at h
          · cases h
            have := hi _ _ e
            omega
          · cases h
            omega
      · have := hi t m h
        omega
theorem sX4_sideOf {Q : QR} {np : Nat} (h : RQ1 M o Q) (hQ : r_ok np nc Q) (hnp : np ≤ 12) {p : Nat} (hp : p < 12) : fX4_sideOf M o (nI p) = some (oI (r_side Q p), M) := by
  have h0 := hQ.1
  have h1 := hQ.2.1
  unfold fX4_sideOf r_side
  rw [h.1, h.2.1]
  by_cases e0 : p = r_p Q 0
  · rw [if_neg (by rw [e0]; exact fun z => z rfl), if_pos e0]
    rfl
  · rw [if_pos (fun z => e0 ((nI_eq (by omega) (by omega)).mp z)), if_neg e0]
    by_cases e1 : p = r_p Q 1
    · rw [if_neg (by rw [e1]; exact fun z => z rfl), if_pos e1]
      rfl
    · rw [if_pos (fun z => e1 ((nI_eq (by omega) (by omega)).mp z)), if_neg e1]
      rfl
theorem sX1_goingOn_b4 (h : RB1 M o B) (hB : b_ok nc B) : ∀ (n i q : Nat), i + n = b_q B → n < q → fX1_goingOn_b4 q M o (nI (cOn B i)) (nI i) = some (nI (cOn B (b_q B)), M) := by
  have hq24 := hB.2.1
  intro n
  induction n with
  | zero =>
    intro i q hi hq
    obtain ⟨q, rfl⟩ : ∃ p, q = p + 1 := ⟨q - 1, by omega⟩
    have e : i = b_q B := hi
    subst e
    rw [fX1_goingOn_b4, h.2.1, if_pos (nI_le (Nat.le_refl _) (by omega))]
  | succ n ih =>
    intro i q hi hq
    obtain ⟨q, rfl⟩ : ∃ p, q = p + 1 := ⟨q - 1, by omega⟩
    rw [fX1_goingOn_b4, h.2.1, if_neg (nI_ge (by omega) (by omega)), if_neg (show ¬ (24 : Int32) ≤ nI i from nI_ge (b := 24) (by omega) (by omega)), if_pos (q_inN (by omega) (by omega)), nI_cl (by omega),
      sX4_goesOn (h.2.2.2 i (by omega)) (hB.2.2.2 i (by omega)), q_b_s]
    unfold fX1_goingOn_b33
    have e2 : cOn B (i + 1) = cOn B i + if s_e (r_now (b_r B i)) = 0 then 1 else 0 := rfl
    by_cases e : s_e (r_now (b_r B i)) = 0
    · rw [if_pos e] at e2
      rw [if_pos e, if_neg (by decide), nI_1, nI_1, ← e2]
      exact ih (i + 1) q (by omega) (by omega)
    · rw [if_neg e] at e2
      rw [if_neg e, if_pos rfl, nI_1]
      have := ih (i + 1) q (by omega) (by omega)
      rw [e2] at this
      exact this
theorem sX1_goingOn (h : RB1 M o B) (hB : b_ok nc B) : fX1_goingOn M o = some (nI (cOn B (b_q B)), M) := by
  unfold fX1_goingOn
  have := sX1_goingOn_b4 h hB (b_q B) 0 q_F (by omega) (q_Fn (by have := hB.2.1; omega))
  rw [nI0]
  exact this
theorem tI_nI (x : Option (Nat × Nat)) : tI x = -2 ∨ ∃ t m, x = some (t, m) ∧ tI x = nI t := by
  match x with
  | none => exact Or.inl rfl
  | some (t, m) => exact Or.inr ⟨t, m, rfl, rfl⟩
theorem sX1_takenFirst_b8 (h : RB1 M o B) (hB : b_ok nc B) {p : Nat} (hp : p < 12) : ∀ (n i q : Nat), i + n = b_q B → n < q → fX1_takenFirst_b8 q M o (nI p) (tI (tF B p i)) (tM (tF B p i)) (nI i) = some (tI (tF B p (b_q B)), M) := by
  have hq24 := hB.2.1
  intro n
  induction n with
  | zero =>
    intro i q hi hq
    obtain ⟨q, rfl⟩ : ∃ p, q = p + 1 := ⟨q - 1, by omega⟩
    have e : i = b_q B := hi
    subst e
    rw [fX1_takenFirst_b8, h.2.1, if_pos (nI_le (Nat.le_refl _) (by omega))]
  | succ n ih =>
    intro i q hi hq
    obtain ⟨q, rfl⟩ : ∃ p, q = p + 1 := ⟨q - 1, by omega⟩
    have hi2 : i < b_q B := by omega
    have hQ := hB.2.2.2 i hi2
    have hR := h.2.2.2 i hi2
    have nx := ih (i + 1) q (by omega) (by omega)
    rw [fX1_takenFirst_b8, h.2.1, if_neg (nI_ge (by omega) (by omega)), if_neg (show ¬ (24 : Int32) ≤ nI i from nI_ge (b := 24) (by omega) (by omega)), if_pos (q_inN (by omega) (by omega)), nI_cl (by omega),
      sX4_sideOf hR hQ hB.1 hp, q_b_s]
    unfold fX1_takenFirst_b96
    rw [nI_1]
    have eT : tF B p (i + 1) = match r_side (b_r B i) p with
      | none => tF B p i
      | some k => if s_e (r_now (b_r B i)) = 0 then (match tF B p i with
        | none => some (i, r_w B (b_r B i) k)
        | some (t, m) => if r_w B (b_r B i) k ≤ m then some (t, m) else some (i, r_w B (b_r B i) k)) else tF B p i := rfl
    cases eS : r_side (b_r B i) p with
    | none =>
      rw [eS] at eT
      have eT : tF B p (i + 1) = tF B p i := eT
      rw [if_pos (show oI none = -1 from rfl)]
      rw [eT] at nx
      exact nx
    | some k =>
      rw [eS] at eT
      have hk := r_side_lt eS
      rw [if_neg (show ¬ oI (some k) = -1 from fun z => by
        have z : nI k = -1 := z
        match k, hk with
        | 0, _ => exact absurd z (by decide)
        | 1, _ => exact absurd z (by decide)), sX4_goesOn hR hQ, q_b_s]
      by_cases e : s_e (r_now (b_r B i)) = 0
      · have eT : tF B p (i + 1) = match tF B p i with
          | none => some (i, r_w B (b_r B i) k)
          | some (t, m) => if r_w B (b_r B i) k ≤ m then some (t, m) else some (i, r_w B (b_r B i) k) := by
          rw [eT]
          exact if_pos e
        have hp2 : r_p (b_r B i) (1 - k) < b_n B := by
          match k, hk with
          | 0, _ => exact hQ.2.1
          | 1, _ => exact hQ.1
        have e1k : (1 : Int32) - oI (some k) = nI (1 - k) := by
          match k, hk with
          | 0, _ => decide
          | 1, _ => decide
        have hw := r_w_lt hB hi2 hk
        have ew : (10 : Int32) * nI (s_o (r_now (b_r B i)) k) + nI (b_rank B (r_p (b_r B i) (1 - k))) = nI (r_w B (b_r B i) k) := by
          rw [show (10 : Int32) = nI 10 from rfl, pk_mul, nI_add]
          rfl
        rw [if_pos e, if_neg (by decide), sX4_now hR hQ, q_b_s, show oI (some k) = nI k from rfl, sX7_owed M hQ.now hk, q_b_s, show (1 : Int32) - nI k = nI (1 - k) from e1k, sX4_personOn hR (by omega), q_b_s,
          sX1_rankOf h hB.1 hp2, q_b_s, ew]
        cases eF : tF B p i with
        | none =>
          rw [eF] at eT
          have eT : tF B p (i + 1) = some (i, r_w B (b_r B i) k) := eT
          rw [if_neg (show ¬ nI (r_w B (b_r B i) k) ≤ tM none from fun z => by
            have z : nI (r_w B (b_r B i) k) ≤ -1 := z
            rw [Int32.le_iff_toInt_le, nI_toInt (by omega)] at z
            have : (-1 : Int32).toInt = -1 := by decide
            omega)]
          rw [eT] at nx
          exact nx
        | some tm =>
          obtain ⟨t, m⟩ := tm
          rw [eF] at eT
          have hm := (tF_ok hB p i (by omega) t m eF).2
          have eT : tF B p (i + 1) = if r_w B (b_r B i) k ≤ m then some (t, m) else some (i, r_w B (b_r B i) k) := eT
          by_cases c : r_w B (b_r B i) k ≤ m
          · rw [if_pos c] at eT
            rw [if_pos (show nI (r_w B (b_r B i) k) ≤ tM (some (t, m)) from nI_le c (by omega))]
            rw [eT] at nx
            exact nx
          · rw [if_neg c] at eT
            rw [if_neg (show ¬ nI (r_w B (b_r B i) k) ≤ tM (some (t, m)) from nI_ge (by omega) (by omega))]
            rw [eT] at nx
            exact nx
      · have eT : tF B p (i + 1) = tF B p i := by
          rw [eT]
          exact if_neg e
        rw [if_neg e, if_pos rfl]
        rw [eT] at nx
        exact nx
theorem sX1_takenFirst (h : RB1 M o B) (hB : b_ok nc B) {p : Nat} (hp : p < 12) : fX1_takenFirst M o (nI p) = some (tI (tF B p (b_q B)), M) := by
  unfold fX1_takenFirst
  have := sX1_takenFirst_b8 h hB hp (b_q B) 0 q_F (by omega) (q_Fn (by have := hB.2.1; omega))
  rw [nI0]
  exact this
end TAKEN
