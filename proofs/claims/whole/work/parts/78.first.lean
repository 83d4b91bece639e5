/-! literals as nI, and the reference's firstOf, waitsFor; the class's waitedFor -/
theorem L1 : (1 : Int32) = nI 1 := rfl
theorem L2 : (2 : Int32) = nI 2 := rfl
theorem L3 : (3 : Int32) = nI 3 := rfl
theorem L4 : (4 : Int32) = nI 4 := rfl
theorem L5 : (5 : Int32) = nI 5 := rfl
theorem L6 : (6 : Int32) = nI 6 := rfl
theorem L8 : (8 : Int32) = nI 8 := rfl
theorem L9 : (9 : Int32) = nI 9 := rfl
theorem L10 : (10 : Int32) = nI 10 := rfl
theorem L12 : (12 : Int32) = nI 12 := rfl
theorem L17 : (17 : Int32) = nI 17 := rfl
theorem L24 : (24 : Int32) = nI 24 := rfl
theorem L50 : (50 : Int32) = nI 50 := rfl
theorem L64 : (64 : Int32) = nI 64 := rfl
theorem L70 : (70 : Int32) = nI 70 := rfl
theorem L194 : (194 : Int32) = nI 194 := rfl
theorem L400 : (400 : Int32) = nI 400 := rfl
theorem L1730 : (1730 : Int32) = nI 1730 := rfl
def rI (x : Option (Nat × Nat)) : Int32 := match x with
  | none => -1
  | some (t, _) => nI t
def rM (x : Option (Nat × Nat)) : Int32 := match x with
  | none => 0
  | some (_, m) => nI m
section FIRST
variable {nc : Nat} {M : QM} {B : BK}
theorem r_side_0 {Q : QR} {p : Nat} (h : p = r_p Q 0) : r_side Q p = some 0 := if_pos h
theorem r_side_1 {Q : QR} {p : Nat} (h0 : p ≠ r_p Q 0) (h : p = r_p Q 1) : r_side Q p = some 1 := by
  unfold r_side
  rw [if_neg h0, if_pos h]
theorem r_side_n {Q : QR} {p : Nat} (h0 : p ≠ r_p Q 0) (h : p ≠ r_p Q 1) : r_side Q p = none := by
  unfold r_side
  rw [if_neg h0, if_neg h]
/-- one of both, of a quarrel that goes on, takes some quarrel first -/
theorem tF_some {p q k : Nat} (hS : r_side (b_r B q) p = some k) (h0 : s_e (r_now (b_r B q)) = 0) : ∀ n, q < n → ∃ t m, tF B p n = some (t, m) := by
  intro n
  induction n with
  | zero => intro h; omega
  | succ n ih =>
    intro hq
    unfold tF
    by_cases e : q = n
    · subst e
      rw [hS]
      simp only [if_pos h0]
      cases tF B p q with
      | none => exact ⟨_, _, rfl⟩
      | some tm =>
        obtain ⟨t, m⟩ := tm
        simp only []
        by_cases c : r_w B (b_r B q) k ≤ m
        · rw [if_pos c]; exact ⟨_, _, rfl⟩
        · rw [if_neg c]; exact ⟨_, _, rfl⟩
    · obtain ⟨t, m, hi⟩ := ih (by omega)
      cases r_side (b_r B n) p with
      | none => exact ⟨t, m, hi⟩
      | some k =>
        simp only []
        by_cases h1 : s_e (r_now (b_r B n)) = 0
        · rw [if_pos h1, hi]
          simp only []
          by_cases c : r_w B (b_r B n) k ≤ m
          · rw [if_pos c]; exact ⟨_, _, rfl⟩
          · rw [if_neg c]; exact ⟨_, _, rfl⟩
        · rw [if_neg h1]; exact ⟨t, m, hi⟩
theorem sX12_firstOf_b77 (h : RM2 M B) (hB : b_ok nc B) {p i k : Nat} (hi : i < b_q B) (hk : k < 2) (h0 : s_e (r_now (b_r B i)) = 0) (hS : r_side (b_r B i) p = some k)
    {K : QM → Int32 → Int32 → Int32 → Int32 → Option (Int32 × QM)} : fX12_firstOf_b77 K M (nI p) (rI (tF B p i)) (rM (tF B p i)) (nI i) (nI k) = K M (nI p) (rI (tF B p (i + 1))) (rM (tF B p (i + 1))) (nI (i + 1)) := by
  have hQ := hB.2.2.2 i hi
  have hR := h.2.2.2 i hi
  have h24 := hB.2.1
  have hn0 : 0 < r_n (b_r B i) := hQ.2.2.2.2.2.2.1
  have hn9 : r_n (b_r B i) ≤ 9 := hQ.2.2.2.2.2.2.2.1
  have hp2 : r_p (b_r B i) (1 - k) < b_n B := by
    match k, hk with
    | 0, _ => exact hQ.2.1
    | 1, _ => exact hQ.1
  have hn12 := hB.1
  have a1 : q_a M 1000 43 (64 * i + 5) = nI (r_n (b_r B i)) := hR.2.2.2.2.2.1
  have a2 : q_a M 1000 43 (64 * i + 17 + 5 * (r_n (b_r B i) - 1) + k) = nI (s_o (r_now (b_r B i)) k) := by
    have := hR.2.2.2.2.2.2.2.2 (r_n (b_r B i) - 1) (by omega)
    match k, hk with
    | 0, _ => exact this.2.1
    | 1, _ => exact this.2.2.1
  have a3 : q_a M 1000 43 (64 * i + 1 - k) = nI (r_p (b_r B i) (1 - k)) := by
    match k, hk with
    | 0, _ => exact hR.2.1
    | 1, _ => exact hR.1
  have a4 : q_a M 1000 1 (4 * r_p (b_r B i) (1 - k) + 1) = nI (b_rank B (r_p (b_r B i) (1 - k))) := (h.2.2.1 _ hp2).2.1
  have c1 : q_in (nI (64 * i + 5)) 1536 := q_inN (by omega) (by omega)
  have c2 : q_in (nI (64 * i + 17 + 5 * (r_n (b_r B i) - 1) + k)) 1536 := q_inN (by omega) (by omega)
  have c3 : q_in (nI (64 * i + 1 - k)) 1536 := q_inN (by omega) (by omega)
  have c4 : q_in (nI (4 * r_p (b_r B i) (1 - k) + 1)) 48 := q_inN (by omega) (by omega)
  have l1 : (nI (64 * i + 5)).toNatClampNeg = 64 * i + 5 := nI_cl (by omega)
  have l2 : (nI (64 * i + 17 + 5 * (r_n (b_r B i) - 1) + k)).toNatClampNeg = 64 * i + 17 + 5 * (r_n (b_r B i) - 1) + k := nI_cl (by omega)
  have l3 : (nI (64 * i + 1 - k)).toNatClampNeg = 64 * i + 1 - k := nI_cl (by omega)
  have l4 : (nI (4 * r_p (b_r B i) (1 - k) + 1)).toNatClampNeg = 4 * r_p (b_r B i) (1 - k) + 1 := nI_cl (by omega)
  have s1 : nI (r_n (b_r B i)) - nI 1 = nI (r_n (b_r B i) - 1) := pk_sub (by omega)
  have s2 : nI (64 * i + 1) - nI k = nI (64 * i + 1 - k) := pk_sub (by omega)
  have hw := r_w_lt hB hi hk
  have ew : nI (10 * s_o (r_now (b_r B i)) k + b_rank B (r_p (b_r B i) (1 - k))) = nI (r_w B (b_r B i) k) := rfl
  have eT : tF B p (i + 1) = match tF B p i with
    | none => some (i, r_w B (b_r B i) k)
    | some (t, m) => if r_w B (b_r B i) k ≤ m then some (t, m) else some (i, r_w B (b_r B i) k) := by
    rw [tF, hS]
    exact if_pos h0
  simp only [fX12_firstOf_b77, fX12_firstOf_b155, fX12_firstOf_b161, q_t, L64, L5, L17, L4, L10, L1, pk_mul, nI_add, if_pos c1, l1, a1, s1, if_pos c2, l2, a2, s2, if_pos c3, l3, a3, if_pos c4, l4, a4, ew]
  cases eF : tF B p i with
  | none =>
    rw [eF] at eT
    have eT : tF B p (i + 1) = some (i, r_w B (b_r B i) k) := eT
    rw [eT, if_pos (show rI none < 0 by decide)]
    rfl
  | some tm =>
    obtain ⟨t, m⟩ := tm
    rw [eF] at eT
    have hm := tF_ok hB p i (by omega) t m eF
    have eT : tF B p (i + 1) = if r_w B (b_r B i) k ≤ m then some (t, m) else some (i, r_w B (b_r B i) k) := eT
    rw [eT, if_neg (show ¬ rI (some (t, m)) < 0 from nI_pos (by omega))]
    by_cases c : r_w B (b_r B i) k ≤ m
    · rw [if_pos c, if_neg (show ¬ rM (some (t, m)) < nI (r_w B (b_r B i) k) from nI_nlt c (by omega))]
    · rw [if_neg c, if_pos (show rM (some (t, m)) < nI (r_w B (b_r B i) k) from nI_lt (by omega) (by omega))]
      rfl
theorem sX12_firstOf_b7 (h : RM2 M B) (hB : b_ok nc B) {p : Nat} (hp : p < 12) : ∀ (n i q : Nat), i + n = b_q B → n < q → fX12_firstOf_b7 q M (nI p) (rI (tF B p i)) (rM (tF B p i)) (nI i) = some (rI (tF B p (b_q B)), M) := by
  have h24 := hB.2.1
  have h12 := hB.1
  intro n
  induction n with
  | zero =>
    intro i q hi hq
    obtain ⟨q, rfl⟩ : ∃ p, q = p + 1 := ⟨q - 1, by omega⟩
    have e : i = b_q B := hi
    subst e
    rw [fX12_firstOf_b7, h.2.1, if_pos (nI_le (Nat.le_refl _) (by omega))]
  | succ n ih =>
    intro i q hi hq
    obtain ⟨q, rfl⟩ : ∃ p, q = p + 1 := ⟨q - 1, by omega⟩
    have hi2 : i < b_q B := by omega
    have hQ := hB.2.2.2 i hi2
    have hR := h.2.2.2 i hi2
    have nx := ih (i + 1) q (by omega) (by omega)
    have p0 : r_p (b_r B i) 0 < b_n B := hQ.1
    have p1 : r_p (b_r B i) 1 < b_n B := hQ.2.1
    have a0 : q_a M 1000 43 (64 * i) = nI (r_p (b_r B i) 0) := hR.1
    have a1 : q_a M 1000 43 (64 * i + 1) = nI (r_p (b_r B i) 1) := hR.2.1
    have c0 : q_in (nI (64 * i)) 1536 := q_inN (by omega) (by omega)
    have c1 : q_in (nI (64 * i + 1)) 1536 := q_inN (by omega) (by omega)
    have l0 : (nI (64 * i)).toNatClampNeg = 64 * i := nI_cl (by omega)
    have l1 : (nI (64 * i + 1)).toNatClampNeg = 64 * i + 1 := nI_cl (by omega)
    have sk : tF B p (i + 1) = tF B p i → fX12_firstOf_b7 q M (nI p) (rI (tF B p i)) (rM (tF B p i)) (nI (i + 1)) = some (rI (tF B p (b_q B)), M) := fun e => by
      rw [e] at nx
      exact nx
    rw [fX12_firstOf_b7, h.2.1, if_neg (nI_ge (by omega) (by omega)), sX12_isOn h hB hi2, q_b_s]
    unfold fX12_firstOf_b58 fX12_firstOf_b161
    by_cases h0 : s_e (r_now (b_r B i)) = 0
    · rw [if_pos h0, if_neg (by decide)]
      simp only [L64, L1, pk_mul, nI_add, if_pos c0, l0, a0, if_pos c1, l1, a1]
      by_cases e0 : p = r_p (b_r B i) 0
      · rw [if_pos (by rw [e0]), if_neg (by rw [e0]; exact fun z => z rfl)]
        exact (sX12_firstOf_b77 (k := 0) h hB hi2 (by decide) h0 (r_side_0 e0)).trans nx
      · have n0 : ¬ nI (r_p (b_r B i) 0) = nI p := fun z => e0 ((nI_eq (by omega) (by omega)).mp z).symm
        rw [if_neg n0]
        by_cases e1 : p = r_p (b_r B i) 1
        · rw [if_pos (by rw [e1]), if_pos n0]
          exact (sX12_firstOf_b77 (k := 1) h hB hi2 (by decide) h0 (r_side_1 e0 e1)).trans nx
        · rw [if_neg (fun z => e1 ((nI_eq (by omega) (by omega)).mp z).symm)]
          refine sk ?_
          rw [tF, r_side_n e0 e1]
    · rw [if_neg h0, if_pos rfl, L1, nI_add]
      refine sk ?_
      rw [tF]
      cases r_side (b_r B i) p with
      | none => rfl
      | some k => exact if_neg h0
theorem sX12_firstOf (h : RM2 M B) (hB : b_ok nc B) {p : Nat} (hp : p < 12) : fX12_firstOf M (nI p) = some (rI (tF B p (b_q B)), M) := by
  unfold fX12_firstOf
  have := sX12_firstOf_b7 h hB hp (b_q B) 0 q_F (by omega) (q_Fn (by have := hB.2.1; omega))
  exact this
end FIRST
