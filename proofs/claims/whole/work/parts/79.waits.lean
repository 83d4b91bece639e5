/-! waitsFor, waitedFor -/
/-- the bit of what a person takes first, if it is another quarrel -/
def wB (B : BK) (q p : Nat) : Nat := match tF B p (b_q B) with
  | none => 0
  | some (t, _) => if t = q then 0 else 2 ^ t
def wF (B : BK) (q : Nat) : Nat := if s_e (r_now (b_r B q)) = 0 then wB B q (r_p (b_r B q) 0) ||| wB B q (r_p (b_r B q) 1) else 0
theorem bit31 (t : Nat) (h : t < 31) : (1 : Int32) <<< (nI t &&& (31 : Int32)) = nI (2 ^ t) := by
  have : ∀ t, t < 31 → (1 : Int32) <<< (nI t &&& (31 : Int32)) = nI (2 ^ t) := by decide +kernel
  exact this t h
theorem wD : ∀ a, a < 24 → ∀ b, b < 24 → ∀ q, q < 24 → (((1 : Int32) <<< (nI a &&& (31 : Int32))) ||| ((1 : Int32) <<< (nI b &&& (31 : Int32)))) &&& (((1 : Int32) <<< (nI q &&& (31 : Int32))) ^^^ (-1 : Int32)) = nI ((if a = q then 0 else 2 ^ a) ||| (if b = q then 0 else 2 ^ b)) := by decide +kernel
theorem wD0 : ∀ q, q < 24 → (0 : Int32) &&& (((1 : Int32) <<< (nI q &&& (31 : Int32))) ^^^ (-1 : Int32)) = nI 0 := by decide +kernel
section WAITS
variable {nc : Nat} {M : QM} {o : Nat} {B : BK}
theorem wB_lt (hB : b_ok nc B) (q p : Nat) : wB B q p < 2 ^ 24 := by
  unfold wB
  cases e : tF B p (b_q B) with
  | none =>
    show 0 < 2 ^ 24
    decide
  | some tm =>
    obtain ⟨t, m⟩ := tm
    have := (tF_ok hB p _ (Nat.le_refl _) t m e).1
    have h24 := hB.2.1
    simp only []
    split
    · decide
    · exact Nat.pow_lt_pow_right (by decide) (by omega)
theorem wF_lt (hB : b_ok nc B) (q : Nat) : wF B q < 2 ^ 24 := by
  unfold wF
  split
  · exact Nat.or_lt_two_pow (wB_lt hB q _) (wB_lt hB q _)
  · decide
theorem sX12_waitsFor (h : RM2 M B) (hB : b_ok nc B) {q : Nat} (hq : q < b_q B) : fX12_waitsFor M (nI q) = some (nI (wF B q), M) := by
  have hQ := hB.2.2.2 q hq
  have hR := h.2.2.2 q hq
  have h24 := hB.2.1
  have h12 := hB.1
  have p0 : r_p (b_r B q) 0 < b_n B := hQ.1
  have p1 : r_p (b_r B q) 1 < b_n B := hQ.2.1
  have a0 : q_a M 1000 43 (64 * q) = nI (r_p (b_r B q) 0) := hR.1
  have a1 : q_a M 1000 43 (64 * q + 1) = nI (r_p (b_r B q) 1) := hR.2.1
  have c0 : q_in (nI (64 * q)) 1536 := q_inN (by omega) (by omega)
  have c1 : q_in (nI (64 * q + 1)) 1536 := q_inN (by omega) (by omega)
  have l0 : (nI (64 * q)).toNatClampNeg = 64 * q := nI_cl (by omega)
  have l1 : (nI (64 * q + 1)).toNatClampNeg = 64 * q + 1 := nI_cl (by omega)
  have e0 : (64 : Int32) * nI q = nI (64 * q) := by rw [L64, pk_mul]
  have e1 : nI (64 * q) + (1 : Int32) = nI (64 * q + 1) := by rw [L1, nI_add]
  unfold fX12_waitsFor wF
  rw [sX12_isOn h hB hq, q_b_s]
  by_cases hs : s_e (r_now (b_r B q)) = 0
  · obtain ⟨t0, m0, f0⟩ := tF_some (B := B) (r_side_0 (Q := b_r B q) rfl) hs _ hq
    obtain ⟨t1, m1, f1⟩ := tF_some (B := B) (r_side_1 (Q := b_r B q) (fun z => hQ.2.2.1 z.symm) rfl) hs _ hq
    have k0 := (tF_ok hB _ _ (Nat.le_refl _) _ _ f0).1
    have k1 := (tF_ok hB _ _ (Nat.le_refl _) _ _ f1).1
    rw [if_pos hs, if_pos hs, if_neg (by decide)]
    simp only [e0, e1, if_pos c0, l0, a0, if_pos c1, l1, a1, q_t]
    rw [sX12_firstOf h hB (p := r_p (b_r B q) 0) (by omega), q_b_s, a1, sX12_firstOf h hB (p := r_p (b_r B q) 1) (by omega), q_b_s, f0, f1]
    unfold fX12_waitsFor_b45 wB
    rw [show rI (some (t0, m0)) = nI t0 from rfl, show rI (some (t1, m1)) = nI t1 from rfl, wD t0 (by omega) t1 (by omega) q (by omega), f0, f1]
  · rw [if_neg hs, if_neg hs, if_pos rfl]
    unfold fX12_waitsFor_b45
    rw [wD0 q (by omega)]
theorem sX1_waitedFor_b24 (h : RB1 M o B) (hB : b_ok nc B) {q : Nat} (hq : q < b_q B) {k : Nat} (hk : k < 2) (f a : Nat) : fX1_waitedFor_b24 (f + 1) M o (nI q) (el o 5 q) (nI a) (nI k) = fX1_waitedFor_b24 f M o (nI q) (el o 5 q) (nI (a ||| wB B q (r_p (b_r B q) k))) (nI (k + 1)) := by
  have hQ := hB.2.2.2 q hq
  have h24 := hB.2.1
  have h12 := hB.1
  have hp : r_p (b_r B q) k < b_n B := by
    match k, hk with
    | 0, _ => exact hQ.1
    | 1, _ => exact hQ.2.1
  rw [fX1_waitedFor_b24, if_neg (show ¬ (2 : Int32) ≤ nI k from nI_ge (b := 2) hk (by omega)), sX4_personOn (h.2.2.2 q hq) hk, q_b_s, sX1_takenFirst h hB (by omega), q_b_s]
  unfold fX1_waitedFor_b60 wB
  cases e : tF B (r_p (b_r B q) k) (b_q B) with
  | none =>
    rw [if_pos (show tI none < 0 by decide), L1, nI_add]
    simp
  | some tm =>
    obtain ⟨t, m⟩ := tm
    have ht := (tF_ok hB _ _ (Nat.le_refl _) _ _ e).1
    rw [if_neg (show ¬ tI (some (t, m)) < 0 from nI_pos (by omega)), show tI (some (t, m)) = nI t from rfl]
    by_cases c : t = q
    · rw [if_pos (by rw [c]), L1, nI_add]
      simp [c]
    · rw [if_neg (fun z => c ((nI_eq (by omega) (by omega)).mp z)), bit31 t (by omega), nI_or, L1, nI_add]
      simp [c]
theorem sX1_waitedFor (h : RB1 M o B) (ho : 20 ≤ o) (ho2 : o < 25) (hB : b_ok nc B) {q : Nat} (hq : q < b_q B) : fX1_waitedFor M o (nI q) = some (nI (wF B q), M) := by
  have h24 := hB.2.1
  have hk : kls (el o 5 q) = 4 := by
    rw [el_qN ho]
    unfold kls
    rw [if_neg (by omega), if_pos (by omega)]
  unfold fX1_waitedFor wF
  rw [sX1_quarrelAt h h24 hq, q_b_s, q_o_s, if_pos hk, sX4_goesOn (h.2.2.2 q hq) (hB.2.2.2 q hq), q_b_s]
  by_cases hs : s_e (r_now (b_r B q)) = 0
  · rw [if_pos hs, if_pos (by decide), if_pos hs]
    obtain ⟨f, ef⟩ : ∃ f, q_F = f + 3 := ⟨99997, rfl⟩
    rw [ef, nI0, sX1_waitedFor_b24 h hB hq (k := 0) (by decide), sX1_waitedFor_b24 h hB hq (k := 1) (by decide), fX1_waitedFor_b24, if_pos (by decide), Nat.zero_or]
  · rw [if_neg hs, if_neg (by decide), if_neg hs]
    rfl
end WAITS
