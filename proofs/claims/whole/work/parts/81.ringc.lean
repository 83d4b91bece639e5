/-! the class's ring -/
section RINGC
variable {nc : Nat} {M : QM} {o : Nat} {B : BK}
theorem sX1_isInRing_b35 (h : RB1 M o B) (ho : 20 ≤ o) (ho2 : o < 25) (hB : b_ok nc B) {p i kn F : Nat} (hF : F < 2 ^ b_q B) {K : QM → Nat → Int32 → Int32 → Int32 → Int32 → Option (Int32 × QM)} : ∀ (n j q R : Nat), j + n = 24 → n < q → R < 2 ^ b_q B →
    ∃ T, fX1_isInRing_b35 K q M o (nI p) (nI kn) (nI R) (nI i) (nI F) (nI j) = K M o (nI p) (nI kn) (nI T) (nI (i + 1)) ∧ T < 2 ^ b_q B ∧ sB R T ∧ (∀ t, j ≤ t → F.testBit t = true → sB (wF B t) T) ∧ ∀ P : Nat → Prop, clB B P → (∀ t, R.testBit t = true → P t) → (∀ t, F.testBit t = true → P t) → ∀ t, T.testBit t = true → P t := by
  have h24 := hB.2.1
  intro n
  induction n with
  | zero =>
    intro j q R hj hq hR
    obtain ⟨q, rfl⟩ : ∃ p, q = p + 1 := ⟨q - 1, by omega⟩
    have e : j = 24 := hj
    subst e
    refine ⟨R, ?_, hR, fun _ z => z, fun t ht z => absurd (bit_lt hF z) (by omega), fun P _ z _ => z⟩
    rw [fX1_isInRing_b35, if_pos (by decide), fX1_isInRing_b68, L1, nI_add]
  | succ n ih =>
    intro j q R hj hq hR
    obtain ⟨q, rfl⟩ : ∃ p, q = p + 1 := ⟨q - 1, by omega⟩
    rw [fX1_isInRing_b35, if_neg (show ¬ (24 : Int32) ≤ nI j from nI_ge (b := 24) (by omega) (by omega)), bitQ (lt24 hB hF) (by omega)]
    unfold fX1_isInRing_b62
    by_cases c : F.testBit j = true
    · have hjq := bit_lt hF c
      rw [if_pos c, if_neg (by decide), sX1_waitedFor h ho ho2 hB hjq, q_b_s, nI_or, L1, nI_add]
      obtain ⟨T, e, h1, h2, h3, h4⟩ := ih (j + 1) q (R ||| wF B j) (by omega) (by omega) (Nat.or_lt_two_pow hR (wF_ltq hB j))
      have hST : ∀ t, R.testBit t = true → (R ||| wF B j).testBit t = true := fun t z => by rw [Nat.testBit_or, z]; rfl
      have hWT : ∀ t, (wF B j).testBit t = true → (R ||| wF B j).testBit t = true := fun t z => by rw [Nat.testBit_or, z, Bool.or_true]
      refine ⟨T, e, h1, fun t z => h2 t (hST t z), fun t ht z => ?_, fun P hP z y t ht => h4 P hP (fun u hu => ?_) y t ht⟩
      · by_cases e2 : t = j
        · subst e2
          exact fun u hu => h2 u (hWT u hu)
        · exact h3 t (by omega) z
      · rw [Nat.testBit_or, Bool.or_eq_true] at hu
        exact hu.elim (z u) (fun hw => hP j u (y j c) hw)
    · rw [if_neg c, if_pos (by decide), L1, nI_add]
      obtain ⟨T, e, h1, h2, h3, h4⟩ := ih (j + 1) q R (by omega) (by omega) hR
      refine ⟨T, e, h1, h2, fun t ht z => ?_, h4⟩
      by_cases e2 : t = j
      · subst e2
        exact absurd z c
      · exact h3 t (by omega) z
theorem sX1_isInRing_b74 (hB : b_ok nc B) {p R : Nat} (hp : p < 24) (hR : R < 2 ^ b_q B) : fX1_isInRing_b74 M (nI p) (nI R) = some (if R.testBit p then 1 else 0, M) := by
  rw [fX1_isInRing_b74, if_neg (nI_pos (by omega)), if_neg (show ¬ (24 : Int32) ≤ nI p from nI_ge (b := 24) (by omega) (by omega)), bitQ (lt24 hB hR) (by omega)]
  by_cases c : R.testBit p = true
  · rw [if_pos c, if_neg (by decide)]
  · rw [if_neg c, if_pos (by decide)]
theorem sX1_isInRing_b11 (h : RB1 M o B) (ho : 20 ≤ o) (ho2 : o < 25) (hB : b_ok nc B) {p : Nat} (hp : p < 24) : ∀ (n i q kn R : Nat), i + n = 24 → n < q → kn < 2 ^ b_q B → R < 2 ^ b_q B → sB kn R → sB (wF B p) R → (∀ t, kn.testBit t = true → sB (wF B t) R) → (∀ P : Nat → Prop, clB B P → (∀ t, (wF B p).testBit t = true → P t) → ∀ t, R.testBit t = true → P t) → i ≤ cB kn 24 →
    ∃ T, fX1_isInRing_b11 q M o (nI p) (nI kn) (nI R) (nI i) = some (if T.testBit p then 1 else 0, M) ∧ rgB B p T := by
  have h24 := hB.2.1
  intro n
  induction n with
  | zero =>
    intro i q kn R hi hq hk hR h1 h2 h3 h4 h5
    obtain ⟨q, rfl⟩ : ∃ p, q = p + 1 := ⟨q - 1, by omega⟩
    have e : i = 24 := hi
    subst e
    refine ⟨R, ?_, h2, fun a b ha hw => h3 a (cB_all 24 h5 a (bit_lt (lt24 hB hR) ha)) b hw, h4⟩
    rw [fX1_isInRing_b11, if_pos (by decide), sX1_isInRing_b74 hB hp hR]
  | succ n ih =>
    intro i q kn R hi hq hk hR h1 h2 h3 h4 h5
    obtain ⟨q, rfl⟩ : ∃ p, q = p + 1 := ⟨q - 1, by omega⟩
    rw [fX1_isInRing_b11, if_neg (show ¬ (24 : Int32) ≤ nI i from nI_ge (b := 24) (by omega) (by omega))]
    have b1 := lt24 hB hk
    have b2 := lt24 hB hR
    by_cases c : R = kn
    · subst c
      refine ⟨R, ?_, h2, fun a b ha hw => h3 a ha b hw, h4⟩
      rw [if_pos rfl, sX1_isInRing_b74 hB hp hR]
    · rw [if_neg (fun z => c ((nI_eq (Nat.lt_of_lt_of_le b2 (by decide)) (Nat.lt_of_lt_of_le b1 (by decide))).mp z)), nI_andn b2, nI0]
      have hF : R &&& ((2 ^ 24 - 1) ^^^ kn) < 2 ^ b_q B := Nat.lt_of_le_of_lt Nat.and_le_left hR
      obtain ⟨T, e, g1, g2, g3, g4⟩ := sX1_isInRing_b35 h ho ho2 hB (p := p) (i := i) (kn := R) hF (K := fun M o0 x1 x2 x3 x4 => fX1_isInRing_b11 q M o0 x1 x2 x3 x4) 24 0 q_F R rfl (q_Fn (by decide)) hR
      have hFb : ∀ t, (R &&& ((2 ^ 24 - 1) ^^^ kn)).testBit t = true ↔ (R.testBit t = true ∧ ¬ kn.testBit t = true) := fun t => by
        rw [Nat.testBit_and, Nat.testBit_xor, Nat.testBit_two_pow_sub_one]
        by_cases d : R.testBit t = true
        · have := bit_lt b2 d
          simp [d, this]
        · simp [d]
      rw [e]
      refine ih (i + 1) q R T (by omega) (by omega) hR g1 g2 (fun t z => g2 t (h2 t z)) (fun t ht => ?_) (fun P hP z => g4 P hP (h4 P hP z) (fun t ht => h4 P hP z t ((hFb t).mp ht).1)) ?_
      · by_cases d : kn.testBit t = true
        · exact fun u hu => g2 u (h3 t d u hu)
        · exact g3 t (Nat.zero_le _) ((hFb t).mpr ⟨ht, d⟩)
      · have := sB_cnt h1 b2 (fun z => c z.symm)
        omega
/-- both sides answer alike -/
theorem ring_1 (h : RB1 M o B) (ho : 20 ≤ o) (ho2 : o < 25) (hB : b_ok nc B) {p : Nat} (hp : p < b_q B) : ∃ T, fX1_isInRing M o (nI p) = some (if T.testBit p then 1 else 0, M) ∧ rgB B p T := by
  have h24 := hB.2.1
  unfold fX1_isInRing
  rw [sX1_waitedFor h ho ho2 hB hp, q_b_s, nI0]
  exact sX1_isInRing_b11 h ho ho2 hB (by omega) 24 0 q_F 0 (wF B p) rfl (q_Fn (by decide)) (Nat.two_pow_pos _) (wF_ltq hB p) (fun t z => by rw [Nat.zero_testBit] at z; cases z) (fun _ z => z) (fun t z => by rw [Nat.zero_testBit] at z; cases z) (fun P _ z => z) (Nat.zero_le _)
theorem ring_2 (h : RM2 M B) (hB : b_ok nc B) {p : Nat} (hp : p < b_q B) : ∃ T, fX12_ring M (nI p) = some (if T.testBit p then 1 else 0, M) ∧ rgB B p T := by
  have h24 := hB.2.1
  unfold fX12_ring
  rw [sX12_isQuarrel h h24 hp, q_b_s, if_pos (by decide), sX12_waitsFor h hB hp, q_b_s, nI0]
  exact sX12_ring_b18 h hB (by omega) 24 0 q_F (wF B p) rfl (q_Fn (by decide)) (wF_ltq hB p) (fun _ z => z) (fun P _ z => z) (Or.inr (Nat.zero_le _))
end RINGC
