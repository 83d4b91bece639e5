/-! A STATE of a quarrel: owed the first, owed the second, hours left, turn, who has asked (0 nobody, 1, 2), how it ended, the less -/
abbrev ST : Type := Nat × Nat × Nat × Nat × Nat × Nat × Nat
def s_o (s : ST) (h : Nat) : Nat := if h = 0 then s.1 else s.2.1
def s_l (s : ST) : Nat := s.2.2.1
def s_t (s : ST) : Nat := s.2.2.2.1
def s_k (s : ST) : Nat := s.2.2.2.2.1
def s_e (s : ST) : Nat := s.2.2.2.2.2.1
def s_z (s : ST) : Nat := s.2.2.2.2.2.2
/-- its fields fit -/
def s_ok (s : ST) : Prop := s.1 < 16 ∧ s.2.1 < 16 ∧ s.2.2.1 < 16 ∧ s.2.2.2.1 < 2 ∧ s.2.2.2.2.1 < 3 ∧ s.2.2.2.2.2.1 < 5 ∧ s.2.2.2.2.2.2 < 4
def s_n (s : ST) : Nat := s.1 + s.2.1 * 2 ^ 4 + s.2.2.1 * 2 ^ 8 + s.2.2.2.1 * 2 ^ 12 + s.2.2.2.2.1 * 2 ^ 13 + s.2.2.2.2.2.1 * 2 ^ 15 + s.2.2.2.2.2.2 * 2 ^ 18
/-- the class's number of it -/
def s_p (s : ST) : Int32 := nI (s_n s)
/-- outcome -/
def s_u (s : ST) : Nat := 4 * s_e s + s_z s
theorem s_ok.lt {s : ST} (h : s_ok s) : s_n s < 2 ^ 31 := by
  unfold s_ok at h
  unfold s_n
  omega
theorem s_ol {s : ST} (h : s_ok s) (k : Nat) : s_o s k < 16 := by
  unfold s_o
  split
  · exact h.1
  · exact h.2.1
theorem s_and {n k : Nat} (h : n < 2 ^ 31) {m : Int32} (b : Nat) (hm : m.toBitVec.toNat = 2 ^ b - 1) {s : Int32} (hs : (s.toBitVec.smod 32).toNat = k) : (nI n >>> s) &&& m = nI (n / 2 ^ k % 2 ^ b) := by
  rw [pk_shrN h s k hs, pk_andN (Nat.lt_of_le_of_lt (Nat.div_le_self _ _) (by omega)) b hm]
theorem sX7_left (M : QM) {s : ST} (h : s_ok s) : fX7_left M (s_p s) = some (nI (s_l s), M) := by
  unfold fX7_left s_p
  rw [s_and h.lt 4 (by decide) (k := 8) (by decide)]
  congr 3
  unfold s_ok at h
  unfold s_n s_l
  omega
theorem sX7_turn (M : QM) {s : ST} (h : s_ok s) : fX7_turn M (s_p s) = some (nI (s_t s), M) := by
  unfold fX7_turn s_p
  rw [s_and h.lt 1 (by decide) (k := 12) (by decide)]
  congr 3
  unfold s_ok at h
  unfold s_n s_t
  omega
theorem sX7_asked (M : QM) {s : ST} (h : s_ok s) : fX7_asked M (s_p s) = some (nI (s_k s), M) := by
  unfold fX7_asked s_p
  rw [s_and h.lt 2 (by decide) (k := 13) (by decide)]
  congr 3
  unfold s_ok at h
  unfold s_n s_k
  omega
theorem sX7_ending (M : QM) {s : ST} (h : s_ok s) : fX7_ending M (s_p s) = some (nI (s_e s), M) := by
  unfold fX7_ending s_p
  rw [s_and h.lt 3 (by decide) (k := 15) (by decide)]
  congr 3
  unfold s_ok at h
  unfold s_n s_e
  omega
theorem sX7_less (M : QM) {s : ST} (h : s_ok s) : fX7_less M (s_p s) = some (nI (s_z s), M) := by
  unfold fX7_less s_p
  rw [s_and h.lt 2 (by decide) (k := 18) (by decide)]
  congr 3
  unfold s_ok at h
  unfold s_n s_z
  omega
theorem sX7_owed (M : QM) {s : ST} (h : s_ok s) {k : Nat} (hk : k < 2) : fX7_owed M (s_p s) (nI k) = some (nI (s_o s k), M) := by
  unfold fX7_owed fX7_owed_b11 s_p
  have g := h.lt
  unfold s_ok at h
  match k, hk with
  | 0, _ =>
    rw [if_neg (by decide), pk_andN (Nat.lt_of_lt_of_le g (by decide)) 4 (by decide)]
    congr 3
    unfold s_n s_o
    rw [if_pos rfl]
    omega
  | 1, _ =>
    rw [if_pos (by decide), s_and g 4 (by decide) (k := 4) (by decide)]
    congr 3
    unfold s_n s_o
    rw [if_neg (by decide)]
    omega
theorem sX7_outcome (M : QM) {s : ST} (h : s_ok s) : fX7_outcome M (s_p s) = some (nI (s_u s), M) := by
  unfold fX7_outcome
  rw [sX7_ending M h, q_b_s, sX7_less M h, q_b_s, show (4 : Int32) = nI 4 from rfl, pk_mul, nI_add]
  rfl
theorem sX7_of (M : QM) {a b c d e : Nat} (ha : a < 16) (hb : b < 16) (hc : c < 16) (hd : d < 2) (he : e < 3) : fX7_of M (nI a) (nI b) (nI c) (nI d) (nI e) = some (s_p (a, b, c, d, e, 0, 0), M) := by
  simp only [fX7_of, q_t]
  rw [pk_shlN (n := b) _ 4 (by decide) (by omega), pk_shlN (n := c) _ 8 (by decide) (by omega), pk_shlN (n := d) _ 12 (by decide) (by omega), pk_shlN (n := e) _ 13 (by decide) (by omega),
    nI_orS (k := 4) (by omega), nI_orS (k := 8) (by omega), nI_orS (k := 12) (by omega), nI_orS (k := 13) (by omega)]
  unfold s_p s_n
  simp
/-- of a state that goes on: it ends so -/
theorem sX7_ended (M : QM) {s : ST} (h : s_ok s) (h0 : s_e s = 0) (h1 : s_z s = 0) {e z : Nat} (he : e < 5) (hz : z < 4) : fX7_ended M (s_p s) (nI e) (nI z) = some (s_p (s.1, s.2.1, s.2.2.1, s.2.2.2.1, s.2.2.2.2.1, e, z), M) := by
  unfold s_e at h0
  unfold s_z at h1
  unfold s_ok at h
  have g : s_n s < 2 ^ 15 := by
    unfold s_n
    omega
  simp only [fX7_ended, q_t, s_p]
  rw [pk_shlN (n := e) _ 15 (by decide) (by omega), pk_shlN (n := z) _ 18 (by decide) (by omega), nI_orS g, nI_orS (k := 18) (by omega)]
  unfold s_n
  congr 3
  simp only [h0, h1]
  omega
/-- its place in rows of SPOTS -/
def s_s (s : ST) : Nat := s.1 + s.2.1 * 2 ^ 4 + (if s_k s = 0 then 0 else 256) + (s_l s + 7) % 8 * 2 ^ 9
theorem s_sl {s : ST} (h : s_ok s) : s_s s < 4096 := by
  unfold s_s
  unfold s_ok at h
  split <;> omega
theorem s_or3 {a c x : Nat} (ha : a < 2 ^ 8) (hc : c < 2) : nI (x * 2 ^ 9) ||| nI (c * 2 ^ 8) ||| nI a = nI (a + c * 2 ^ 8 + x * 2 ^ 9) := by
  rw [Int32.or_comm, Int32.or_comm (nI (x * 2 ^ 9)), ← Int32.or_assoc, nI_orS (k := 8) ha, nI_orS (k := 9) (by omega)]
theorem sX7_spot (M : QM) {s : ST} (h : s_ok s) : fX7_spot M (s_p s) = some (nI (s_s s), M) := by
  have g := h.lt
  have hl : s_l s < 16 := h.2.2.1
  have e1 : (nI (s_l s) - 1 &&& 7) <<< ((9 : Int32) &&& 31) = nI ((s_l s + 7) % 8 * 2 ^ 9) := by
    have : ∀ n, n < 16 → (nI n - 1 &&& 7) <<< ((9 : Int32) &&& 31) = nI ((n + 7) % 8 * 2 ^ 9) := by decide +kernel
    exact this _ hl
  have e2 : s_p s &&& (255 : Int32) = nI (s.1 + s.2.1 * 2 ^ 4) := by
    unfold s_p
    rw [pk_andN (Nat.lt_of_lt_of_le g (by decide)) 8 (by decide)]
    congr 1
    unfold s_ok at h
    unfold s_n
    omega
  have hk : s_k s < 3 := h.2.2.2.2.1
  simp only [fX7_spot, q_t, sX7_left M h, q_b_s, e1, sX7_asked M h]
  have hlow : s.1 + s.2.1 * 2 ^ 4 < 2 ^ 8 := by
    unfold s_ok at h
    omega
  unfold s_s
  by_cases h0 : s_k s = 0
  · rw [if_neg (by rw [h0]; decide), if_pos h0]
    unfold fX7_spot_b26
    rw [e2, show (0 : Int32) = nI (0 * 2 ^ 8) from rfl, s_or3 hlow (by decide)]
  · rw [if_pos (by rw [show (0 : Int32) = nI 0 from rfl, Ne, nI_eq (by omega) (by omega)]; exact h0), if_neg h0]
    unfold fX7_spot_b26
    rw [e2, show (256 : Int32) = nI (1 * 2 ^ 8) from rfl, s_or3 hlow (by decide)]
