/-! the ring: the least set that holds what q waits for and, of each in it, what that waits for -/
theorem nI_andn {a b : Nat} (ha : a < 2 ^ 24) : nI a &&& (nI b ^^^ (-1 : Int32)) = nI (a &&& ((2 ^ 24 - 1) ^^^ b)) := by
  apply Int32.toBitVec_inj.1
  apply BitVec.eq_of_getLsbD_eq
  intro i hi
  have h1 : (-1 : Int32).toBitVec = BitVec.allOnes 32 := by decide
  by_cases h : i < 24
  · have h2 : ∀ i, (hi : i < 32) → i < 24 → (16777215#32)[i]'hi = true := by decide +kernel
    have h3 := h2 i hi h
    simp [nI, h1, hi, h3]
  · have ha2 : a.testBit i = false := Nat.testBit_lt_two_pow (Nat.lt_of_lt_of_le ha (Nat.pow_le_pow_right (by decide) (by omega)))
    simp [nI, BitVec.getLsbD_ofNat, ha2, Nat.testBit_and]
theorem bitQ {S j : Nat} (hS : S < 2 ^ 24) (hj : j < 31) : ((nI S >>> (nI j &&& (31 : Int32))) &&& (1 : Int32)) = if S.testBit j then 1 else 0 := by
  have hj31 : ∀ j, j < 31 → ((nI j &&& (31 : Int32)).toBitVec.smod 32).toNat = j := by decide
  rw [s_and (Nat.lt_of_lt_of_le hS (by decide)) 1 (by decide) (hj31 j hj), show S / 2 ^ j % 2 ^ 1 = S / 2 ^ j % 2 from rfl, bb_t]
  split <;> rfl
/-- how many bits -/
def cB (S : Nat) : Nat → Nat
  | 0 => 0
  | n + 1 => cB S n + if S.testBit n then 1 else 0
theorem cB_le (S n : Nat) : cB S n ≤ n := by
  induction n with
  | zero => exact Nat.le_refl _
  | succ n ih =>
    unfold cB
    split <;> omega
theorem cB_mono {S T : Nat} (h : ∀ j, S.testBit j = true → T.testBit j = true) (n : Nat) : cB S n ≤ cB T n := by
  induction n with
  | zero => exact Nat.le_refl _
  | succ n ih =>
    unfold cB
    by_cases a : S.testBit n = true
    · rw [if_pos a, if_pos (h n a)]
      omega
    · rw [if_neg a]
      omega
theorem cB_lt {S T : Nat} (h : ∀ j, S.testBit j = true → T.testBit j = true) {k : Nat} (hk : T.testBit k = true) (hk2 : ¬ S.testBit k = true) : ∀ n, k < n → cB S n < cB T n := by
  intro n
  induction n with
  | zero => intro z; omega
  | succ n ih =>
    intro z
    unfold cB
    by_cases e : k = n
    · subst e
      rw [if_pos hk, if_neg hk2]
      have := cB_mono h k
      omega
    · have := ih (by omega)
      by_cases a : S.testBit n = true
      · rw [if_pos a, if_pos (h n a)]
        omega
      · rw [if_neg a]
        omega
theorem cB_all {S : Nat} : ∀ n, n ≤ cB S n → ∀ k, k < n → S.testBit k = true := by
  intro n
  induction n with
  | zero => intro _ k hk; omega
  | succ n ih =>
    intro h k hk
    unfold cB at h
    have := cB_le S n
    by_cases a : S.testBit n = true
    · rw [if_pos a] at h
      by_cases e : k = n
      · rw [e]; exact a
      · exact ih (by omega) k (by omega)
    · rw [if_neg a] at h
      omega
/-- S within T, as sets of bits -/
def sB (S T : Nat) : Prop := ∀ j, S.testBit j = true → T.testBit j = true
theorem sB_eq {S T : Nat} (h : sB S T) (g : sB T S) : S = T := Nat.eq_of_testBit_eq fun j => by
  have h := h j
  have g := g j
  cases e : S.testBit j <;> cases e2 : T.testBit j <;> simp_all
theorem sB_cnt {S T : Nat} (h : sB S T) (hT : T < 2 ^ 24) (n : S ≠ T) : cB S 24 < cB T 24 := by
  have : ∃ k, T.testBit k = true ∧ ¬ S.testBit k = true := by
    by_cases c : ∃ k, T.testBit k = true ∧ ¬ S.testBit k = true
    · exact c
    · exact absurd (sB_eq h (fun j hj => by
        by_cases d : S.testBit j = true
        · exact d
        · exact absurd ⟨j, hj, d⟩ c)) n
  obtain ⟨k, h1, h2⟩ := this
  refine cB_lt h h1 h2 24 ?_
  by_cases d : k < 24
  · exact d
  · rw [Nat.testBit_lt_two_pow (Nat.lt_of_lt_of_le hT (Nat.pow_le_pow_right (by decide) (by omega)))] at h1
    cases h1
/-- closed under waiting -/
def clB (B : BK) (P : Nat → Prop) : Prop := ∀ i j, P i → (wF B i).testBit j = true → P j
/-- the ring's set of q -/
def rgB (B : BK) (q R : Nat) : Prop := sB (wF B q) R ∧ clB B (fun j => R.testBit j = true) ∧ ∀ P : Nat → Prop, clB B P → (∀ j, (wF B q).testBit j = true → P j) → ∀ j, R.testBit j = true → P j
theorem rgB.one {B : BK} {q R S : Nat} (h : rgB B q R) (g : rgB B q S) : R = S :=
  sB_eq (fun j hj => h.2.2 _ g.2.1 g.1 j hj) (fun j hj => g.2.2 _ h.2.1 h.1 j hj)
section RING
variable {nc : Nat} {M : QM} {o : Nat} {B : BK}
theorem wB_ltq (hB : b_ok nc B) (q p : Nat) : wB B q p < 2 ^ b_q B := by
  unfold wB
  cases e : tF B p (b_q B) with
  | none => exact Nat.two_pow_pos _
  | some tm =>
    obtain ⟨t, m⟩ := tm
    have := (tF_ok hB p _ (Nat.le_refl _) t m e).1
    simp only []
    split
    · exact Nat.two_pow_pos _
    · exact Nat.pow_lt_pow_right (by decide) this
theorem wF_ltq (hB : b_ok nc B) (q : Nat) : wF B q < 2 ^ b_q B := by
  unfold wF
  split
  · exact Nat.or_lt_two_pow (wB_ltq hB q _) (wB_ltq hB q _)
  · exact Nat.two_pow_pos _
theorem lt24 (hB : b_ok nc B) {S : Nat} (h : S < 2 ^ b_q B) : S < 2 ^ 24 := Nat.lt_of_lt_of_le h (Nat.pow_le_pow_right (by decide) hB.2.1)
theorem bit_lt {S n j : Nat} (h : S < 2 ^ n) (hj : S.testBit j = true) : j < n := by
  by_cases d : j < n
  · exact d
  · rw [Nat.testBit_lt_two_pow (Nat.lt_of_lt_of_le h (Nat.pow_le_pow_right (by decide) (by omega)))] at hj
    cases hj
/-- one pass of the reference -/
theorem sX12_ring_b27 (h : RM2 M B) (hB : b_ok nc B) {p i : Nat} {K : QM → Int32 → Int32 → Int32 → Option (Int32 × QM)} : ∀ (n j q S : Nat), j + n = b_q B → n < q → S < 2 ^ b_q B →
    ∃ T, fX12_ring_b27 K q M (nI p) (nI S) (nI i) (nI j) = K M (nI p) (nI T) (nI (i + 1)) ∧ T < 2 ^ b_q B ∧ sB S T ∧ (∀ t, j ≤ t → S.testBit t = true → sB (wF B t) T) ∧ ∀ P : Nat → Prop, clB B P → (∀ t, S.testBit t = true → P t) → ∀ t, T.testBit t = true → P t := by
  have h24 := hB.2.1
  intro n
  induction n with
  | zero =>
    intro j q S hj hq hS
    obtain ⟨q, rfl⟩ : ∃ p, q = p + 1 := ⟨q - 1, by omega⟩
    have e : j = b_q B := hj
    subst e
    refine ⟨S, ?_, hS, fun _ z => z, fun t ht z => absurd (bit_lt hS z) (by omega), fun P _ z => z⟩
    rw [fX12_ring_b27, h.2.1, if_pos (nI_le (Nat.le_refl _) (by omega)), fX12_ring_b65, L1, nI_add]
  | succ n ih =>
    intro j q S hj hq hS
    obtain ⟨q, rfl⟩ : ∃ p, q = p + 1 := ⟨q - 1, by omega⟩
    rw [fX12_ring_b27, h.2.1, if_neg (nI_ge (by omega) (by omega)), bitQ (lt24 hB hS) (by omega)]
    unfold fX12_ring_b57
    by_cases c : S.testBit j = true
    · rw [if_pos c, if_neg (by decide), sX12_waitsFor h hB (by omega), q_b_s, nI_or, L1, nI_add]
      obtain ⟨T, e, h1, h2, h3, h4⟩ := ih (j + 1) q (S ||| wF B j) (by omega) (by omega) (Nat.or_lt_two_pow hS (wF_ltq hB j))
      have hST : ∀ t, S.testBit t = true → (S ||| wF B j).testBit t = true := fun t z => by rw [Nat.testBit_or, z]; rfl
      have hWT : ∀ t, (wF B j).testBit t = true → (S ||| wF B j).testBit t = true := fun t z => by rw [Nat.testBit_or, z, Bool.or_true]
      refine ⟨T, e, h1, fun t z => h2 t (hST t z), fun t ht z => ?_, fun P hP z t ht => h4 P hP (fun u hu => ?_) t ht⟩
      · by_cases e2 : t = j
        · subst e2
          exact fun u hu => h2 u (hWT u hu)
        · exact h3 t (by omega) (hST t z)
      · rw [Nat.testBit_or, Bool.or_eq_true] at hu
        exact hu.elim (z u) (fun hw => hP j u (z j c) hw)
    · rw [if_neg c, if_pos (by decide), nI0, nI_or, L1, nI_add, Nat.or_zero]
      obtain ⟨T, e, h1, h2, h3, h4⟩ := ih (j + 1) q S (by omega) (by omega) hS
      refine ⟨T, e, h1, h2, fun t ht z => ?_, h4⟩
      by_cases e2 : t = j
      · subst e2
        exact absurd z c
      · exact h3 t (by omega) z
theorem sX12_ring_b18 (h : RM2 M B) (hB : b_ok nc B) {p : Nat} (hp : p < 24) : ∀ (n i q S : Nat), i + n = 24 → n < q → S < 2 ^ b_q B → sB (wF B p) S → (∀ P : Nat → Prop, clB B P → (∀ t, (wF B p).testBit t = true → P t) → ∀ t, S.testBit t = true → P t) → (clB B (fun t => S.testBit t = true) ∨ i ≤ cB S 24) →
    ∃ T, fX12_ring_b18 q M (nI p) (nI S) (nI i) = some (if T.testBit p then 1 else 0, M) ∧ rgB B p T := by
  intro n
  induction n with
  | zero =>
    intro i q S hi hq hS h1 h2 h3
    obtain ⟨q, rfl⟩ : ∃ p, q = p + 1 := ⟨q - 1, by omega⟩
    have e : i = 24 := hi
    subst e
    refine ⟨S, ?_, h1, ?_, h2⟩
    · rw [fX12_ring_b18, if_pos (by decide), fX12_ring_b71, bitQ (lt24 hB hS) (by omega)]
    · rcases h3 with h3 | h3
      · exact h3
      · exact fun i j _ hw => cB_all 24 h3 j (bit_lt (lt24 hB (wF_ltq hB i)) hw)
  | succ n ih =>
    intro i q S hi hq hS h1 h2 h3
    obtain ⟨q, rfl⟩ : ∃ p, q = p + 1 := ⟨q - 1, by omega⟩
    rw [fX12_ring_b18, if_neg (show ¬ (24 : Int32) ≤ nI i from nI_ge (b := 24) (by omega) (by omega)), nI0]
    obtain ⟨T, e, g1, g2, g3, g4⟩ := sX12_ring_b27 h hB (p := p) (i := i) (K := fun M x1 x2 x3 => fX12_ring_b18 q M x1 x2 x3) (b_q B) 0 q_F S (by omega) (q_Fn (by have := hB.2.1; omega)) hS
    rw [e]
    refine ih (i + 1) q T (by omega) (by omega) g1 (fun t z => g2 t (h1 t z)) (fun P hP z => g4 P hP (h2 P hP z)) ?_
    by_cases c : S = T
    · subst c
      exact Or.inl (fun a b ha hw => g3 a (Nat.zero_le _) ha b hw)
    · rcases h3 with h3 | h3
      · exact absurd (sB_eq g2 (fun t z => g4 _ h3 (fun _ z => z) t z)) c
      · have := sB_cnt g2 (lt24 hB g1) c
        exact Or.inr (by omega)
end RING
