/-! what stands between calls; every call keeps it -/
def IALL (k : Nat) (M1 M2 : QM) : Prop := ∃ nc B Cs n b im, K1 M1 nc B Cs ∧ K2 M2 nc B Cs ∧ KO nc B Cs ∧ TP1 M1 n b ∧ TP2 M2 n b ∧ tp_ok n b ∧ IM1 M1 im ∧ IM2 M2 im ∧ IO nc Cs im ∧ MK M1 k
theorem IALL0 : IALL 0 q_M0 q_M0 := by
  refine ⟨0, (0, 0, fun _ => (0, 0, 0, none, 0), fun _ => ((0, 0, 0, 0, 0), 0, fun _ => 0, fun _ => (0, 0, 0, 0, 0, 0, 0))), fun _ => mkC HD0 (0, 0, 0, fun _ => (0, 0)), 0, fun _ => 0, fun _ => none, ?_, ?_, ?_, ?_, ?_, ?_, ?_, ?_, ?_, ?_⟩
  · exact ⟨⟨rfl, rfl, fun i hi => absurd hi (Nat.not_lt_zero _), fun i hi => absurd hi (Nat.not_lt_zero _)⟩, fun i hi => absurd hi (Nat.not_lt_zero _), rfl⟩
  · exact ⟨⟨rfl, rfl, fun i hi => absurd hi (Nat.not_lt_zero _), fun i hi => absurd hi (Nat.not_lt_zero _)⟩, fun i hi => absurd hi (Nat.not_lt_zero _), rfl, rfl⟩
  · exact ⟨⟨Nat.zero_le _, Nat.zero_le _, fun i hi => absurd hi (Nat.not_lt_zero _), fun i hi => absurd hi (Nat.not_lt_zero _)⟩, Nat.zero_le _, fun i hi => absurd hi (Nat.not_lt_zero _), fun i hi => absurd hi (Nat.not_lt_zero _)⟩
  · exact ⟨rfl, fun i hi => absurd hi (Nat.not_lt_zero _)⟩
  · exact ⟨rfl, fun i hi => absurd hi (Nat.not_lt_zero _)⟩
  · exact ⟨Nat.zero_le _, fun i hi => absurd hi (Nat.not_lt_zero _)⟩
  · intro k hk
    refine ⟨fun _ => ?_, fun B e => by cases e⟩
    have : ∀ k, k < 4 → q_i q_M0 (21 + k) 8 = nI 0 := fun k hk => by
      match k, hk with
      | 0, _ => rfl
      | 1, _ => rfl
      | 2, _ => rfl
      | 3, _ => rfl
    exact this k hk
  · intro k hk
    exact ⟨fun _ => rfl, fun B e => by cases e⟩
  · intro k hk B e
    cases e
  · exact ⟨⟨0, Nat.le_refl _, rfl, fun i hi => ⟨0, Nat.le_refl _, rfl⟩⟩, ⟨0, Nat.le_refl _, rfl, fun i hi => ⟨0, by decide, rfl⟩⟩, 0, Nat.le_refl _, rfl, fun i hi => ⟨0, by decide, rfl⟩⟩
section CALLS
variable {k nc n : Nat} {M1 M2 N1 N2 : QM} {B : BK} {Cs : Nat → CD} {b : Nat → Nat} {im : Nat → Option BK}
theorem MK.kept {S : Nat → Nat → Prop} (h : MK M1 k) (kk : kp S M1 N1) (hS : ∀ a j, S a j → a ≠ 4 ∧ a ≠ 5 ∧ a ≠ 6) : MK N1 (k + 1) := by
  obtain ⟨⟨a, h1, h2⟩, ⟨g, h3, h4⟩, w, h5, h6⟩ := h
  exact ⟨⟨a, by omega, h2.kept kk (fun z => (hS _ _ z).1 rfl) (fun z => (hS _ _ z).1 rfl)⟩, ⟨g, by omega, h4.kept kk (fun j z => (hS _ _ z).2.1 rfl)⟩, w, by omega, h6.kept kk (fun j z => (hS _ _ z).2.2 rfl)⟩
theorem IM2.kz (i2 : IM2 M2 im) {S : Nat → Nat → Prop} (kk : kp S M2 N2) (hS : ∀ j, S 1000 j → j ≠ 44 ∧ j ≠ 45) : IM2 N2 im := i2.kept kk (fun x j z e => hS j (by rw [← e]; exact z))
theorem TP2.kz (t2 : TP2 M2 n b) {S : Nat → Nat → Prop} (kk : kp S M2 N2) (hS : ∀ j, S 1000 j → j ≠ 3 ∧ j ≠ 4) : TP2 N2 n b := t2.keptN kk (fun z => (hS _ z).1 rfl) (fun z => (hS _ z).2 rfl)
/-- a call and what it leaves -/
def UP {α : Type} (k : Nat) (A A2 : Option (α × QM)) : Prop := ∃ r N1 N2, A = some (r, N1) ∧ A2 = some (r, N2) ∧ IALL (k + 1) N1 N2
/-- what stands, for one call -/
def ST9 (k : Nat) (M1 M2 : QM) (nc : Nat) (B : BK) (Cs : Nat → CD) (n : Nat) (b : Nat → Nat) (im : Nat → Option BK) : Prop := K1 M1 nc B Cs ∧ K2 M2 nc B Cs ∧ KO nc B Cs ∧ TP1 M1 n b ∧ TP2 M2 n b ∧ tp_ok n b ∧ IM1 M1 im ∧ IM2 M2 im ∧ IO nc Cs im ∧ MK M1 k
theorem up_0 (h : ST9 k M1 M2 nc B Cs n b im) {A A2 : Option (Int32 × QM)} (g : ∃ r, A = some (r, M1) ∧ A2 = some (r, M2)) : UP k A A2 := by
  obtain ⟨h1, h2, h3, h4, h5, h6, h7, h8, h9, h10⟩ := h
  obtain ⟨r, e1, e2⟩ := g
  exact ⟨r, M1, M2, e1, e2, nc, B, Cs, n, b, im, h1, h2, h3, h4, h5, h6, h7, h8, h9, h10.up⟩
theorem up_G {α : Type} (h : ST9 k M1 M2 nc B Cs n b im) {A A2 : Option (α × QM)} (g : LG M1 M2 k A A2) : UP k A A2 := by
  obtain ⟨h1, h2, h3, h4, h5, h6, h7, h8, h9, h10⟩ := h
  obtain ⟨r, N1, N2, e1, e2, k1, k2, m⟩ := g
  refine ⟨r, N1, N2, e1, e2, nc, B, Cs, n, b, im, h1.kept5 k1 (fun _ _ z => z) h3.2.1, h2.kept k2 (fun _ _ z => z), h3, h4.kept k1 (fun j z => by unfold S5 S1 at z; omega), h5.kz k2 (fun j z => by unfold S2 at z; omega), h6, h7.kept h9 k1 (fun x j z => by unfold S5 S1 at z; omega), h8.kz k2 (fun j z => by unfold S2 at z; omega), h9, m⟩
theorem up_B (h : ST9 k M1 M2 nc B Cs n b im) {A A2 : Option (Int32 × QM)} {S : Nat → Nat → Prop} (hS : ∀ a j, S a j → a = 1000 ∧ (j = 0 ∨ j = 1 ∨ j = 2)) (g : ∃ r N1 N2 B1, A = some (r, N1) ∧ A2 = some (r, N2) ∧ RB1 N1 20 B1 ∧ RM2 N2 B1 ∧ b_ok nc B1 ∧ kp (fun a _ => a = 20) M1 N1 ∧ kp S M2 N2 ∧ b_q B1 = b_q B ∧ b_r B1 = b_r B) : UP k A A2 := by
  obtain ⟨h1, h2, h3, h4, h5, h6, h7, h8, h9, h10⟩ := h
  obtain ⟨r, N1, N2, B1, e1, e2, g1, g2, g3, k1, k2, q1, q2⟩ := g
  refine ⟨r, N1, N2, e1, e2, nc, B1, Cs, n, b, im, h1.book h3.2.1 g1 (k1.wd (fun a j z => by omega)), h2.book g2 (k2.wd (fun a j z => by have := hS _ _ z; omega)), ⟨g3, h3.2.1, h3.2.2.1, ?_⟩, h4.kept k1 (fun j z => by omega), h5.kz k2 (fun j z => by have := hS _ _ z; omega), h6, h7.kept h9 k1 (fun x j z => by omega), h8.kz k2 (fun j z => by have := hS _ _ z; omega), h9, h10.kept k1 (fun a j z => by omega)⟩
  rw [q1, q2]
  exact h3.2.2.2
theorem up_W (h : ST9 k M1 M2 nc B Cs n b im) {A A2 : Option (Int32 × QM)} (g : ∀ a, MA M1 a → a ≤ k → WR M1 M2 nc a Cs A A2) : UP k A A2 := by
  obtain ⟨h1, h2, h3, h4, h5, h6, h7, h8, h9, ⟨⟨a, m1, m2⟩, ⟨y, m3, m4⟩, w, m5, m6⟩⟩ := h
  obtain ⟨r, N1, N2, B1, e1, e2, g1, g2, g3, k1, k2, c, hc, mc⟩ := g a m2 m1
  refine ⟨r, N1, N2, e1, e2, nc, B1, Cs, n, b, im, g1, g2, g3, h4.kept k1 (fun j z => by unfold S1q S1 at z; omega), h5.kz k2 (fun j z => by unfold S2q S2 at z; omega), h6, h7.kept h9 k1 (fun x j z => by unfold S1q S1 at z; omega), h8.kz k2 (fun j z => by unfold S2q S2 at z; omega), h9, ⟨⟨c, by omega, mc⟩, ⟨y, by omega, m4.kept k1 (fun j z => by unfold S1q S1 at z; omega)⟩, w, by omega, m6.kept k1 (fun j z => by unfold S1q S1 at z; omega)⟩⟩
theorem RC2.tape {t : Nat} {C : CD} (h : RC2 M2 t C) (kk : kp ST2 M2 N2) : RC2 N2 t C := by
  have no : ∀ {j : Nat}, j ≠ 3 → j ≠ 4 → ¬ ST2 1000 j := fun a c z => by unfold ST2 at z; omega
  unfold RC2 at h ⊢
  rw [kk.a (no (by decide) (by decide)), kk.a (no (by decide) (by decide)), kk.a (no (by decide) (by decide)), kk.a (no (by decide) (by decide)), kk.a (no (by decide) (by decide))]
  refine ⟨h.1, h.2.1, h.2.2.1, h.2.2.2.1, h.2.2.2.2.1, fun i hi hs => ?_, fun j hj => (kk.a (no (by decide) (by decide))).trans (h.2.2.2.2.2.2 j hj)⟩
  rw [kk.a (no (by decide) (by decide)), kk.a (no (by decide) (by decide)), kk.a (no (by decide) (by decide)), kk.a (no (by decide) (by decide)), kk.a (no (by decide) (by decide))]
  exact h.2.2.2.2.2.1 i hi hs
theorem up_T (h : ST9 k M1 M2 nc B Cs n b im) {A A2 : Option (Int32 × QM)} (g : LT M1 M2 A A2) : UP k A A2 := by
  obtain ⟨h1, h2, h3, h4, h5, h6, h7, h8, h9, h10⟩ := h
  obtain ⟨r, N1, N2, n2, b2, e1, e2, g1, g2, g3, k1, k2⟩ := g
  refine ⟨r, N1, N2, e1, e2, nc, B, Cs, n2, b2, im, ⟨h1.1.kept k1 (by decide) (fun x j z => by unfold ST1 at z; omega), fun c hc => (h1.2.1 c hc).keptA k1 (fun j z => by unfold ST1 at z; omega), (k1.i (fun z => by unfold ST1 at z; omega)).trans h1.2.2⟩, ⟨h2.1.kept k2 (fun j z => by unfold ST2 at z; omega), fun c hc => (h2.2.1 c hc).tape k2, (k2.i (fun z => by unfold ST2 at z; omega)).trans h2.2.2.1, (k2.i (fun z => by unfold ST2 at z; omega)).trans h2.2.2.2⟩, h3, g1, g2, g3, h7.kept h9 k1 (fun x j z => by unfold ST1 at z; omega), h8.kz k2 (fun j z => by unfold ST2 at z; omega), h9, h10.kept k1 (fun a j z => by unfold ST1 at z; omega)⟩
theorem up_I (h : ST9 k M1 M2 nc B Cs n b im) {A A2 : Option (Int32 × QM)} (g : LI M1 M2 nc Cs A A2) : UP k A A2 := by
  obtain ⟨h1, h2, h3, h4, h5, h6, h7, h8, h9, h10⟩ := h
  obtain ⟨r, N1, N2, B1, im1, e1, e2, g1, g2, g3, g4, g5, g6, k1, k2⟩ := g
  exact ⟨r, N1, N2, e1, e2, nc, B1, Cs, n, b, im1, g1, g2, g3, h4.kept k1 (fun j z => by omega), h5.kz k2 (fun j z => by omega), h6, g4, g5, g6, h10.kept k1 (fun a j z => by omega)⟩
theorem up_C (h : ST9 k M1 M2 nc B Cs n b im) : UP k (fX11_code M1) (fX12_code M2) := by
  obtain ⟨h1, h2, h3, h4, h5, h6, h7, h8, h9, h10⟩ := h
  obtain ⟨r, N1, N2, nc2, Cs2, n2, e1, e2, g1, g2, g3, g4, g5, g6, g7, k1, k2⟩ := pair_code h1 h2 h3 h4 h5 h6
  exact ⟨r, N1, N2, e1, e2, nc2, B, Cs2, n2, b, im, g1, g2, g3, g4, g5, g6, h7.kept h9 k1 (fun x j z => by omega), h8.kz k2 (fun j z => by unfold SEe at z; omega), fun i hi B2 e => g7 B2 (h9 i hi B2 e), h10.kept k1 (fun a j z => by omega)⟩
theorem up_M (h : ST9 k M1 M2 nc B Cs n b im) {A A2 : Option (Int32 × QM)} (g : ∃ r N1 N2, A = some (r, N1) ∧ A2 = some (r, N2) ∧ kp S5 M1 N1 ∧ kp (fun a j => S2 a j ∨ (a = 1000 ∧ j = 25)) M2 N2 ∧ q_i N2 1000 25 = nI 0 ∧ MK N1 (k + 1)) : UP k A A2 := by
  obtain ⟨h1, h2, h3, h4, h5, h6, h7, h8, h9, h10⟩ := h
  obtain ⟨r, N1, N2, e1, e2, k1, k2, e25, m⟩ := g
  refine ⟨r, N1, N2, e1, e2, nc, B, Cs, n, b, im, h1.kept5 k1 (fun _ _ z => z) h3.2.1, ⟨h2.1.kept k2 (fun j z => by unfold S2 at z; omega), fun c hc => (h2.2.1 c hc).kept (k2.wd (fun a j z => by unfold S2 at z; omega)), (k2.i (fun z => by unfold S2 at z; omega)).trans h2.2.2.1, e25⟩, h3, h4.kept k1 (fun j z => by unfold S5 S1 at z; omega), h5.kz k2 (fun j z => by unfold S2 at z; omega), h6, h7.kept h9 k1 (fun x j z => by unfold S5 S1 at z; omega), h8.kz k2 (fun j z => by unfold S2 at z; omega), h9, m⟩
theorem UP.s {α : Type} {c : Nat} {a : Nat → Int32} {A A2 : Option (α × QM)} (h : UP k A A2) (e : ∀ N1 N2, (∃ r, A = some (r, N1) ∧ A2 = some (r, N2)) → qL_s c a M1 M2 N1 N2) : ∃ N1 N2, qL_s c a M1 M2 N1 N2 ∧ IALL (k + 1) N1 N2 := by
  obtain ⟨r, N1, N2, e1, e2, i⟩ := h
  exact ⟨N1, N2, e N1 N2 ⟨r, e1, e2⟩, i⟩
theorem IALLs (k : Nat) (M1 M2 : QM) (a : Nat → Int32) (c : Nat) (hI : IALL k M1 M2) (hk : k < 512) (hc : c < 32) : ∃ N1 N2, qL_s c a M1 M2 N1 N2 ∧ IALL (k + 1) N1 N2 := by
  obtain ⟨nc, B, Cs, n, b, im, S⟩ := hI
  have S : ST9 k M1 M2 nc B Cs n b im := S
  obtain ⟨h1, h2, h3, h4, h5, h6, h7, h8, h9, h10⟩ := S
  have S : ST9 k M1 M2 nc B Cs n b im := ⟨h1, h2, h3, h4, h5, h6, h7, h8, h9, h10⟩
  have hk1 : k < 1000 := by omega
  match c, hc with
  | 0, _ => exact (up_B S (fun _ _ z => z) (pair_person h1.1 h2.1 h3.1 (a 1) (a 2) (a 3))).s (fun _ _ e => e)
  | 1, _ =>
    refine UP.s (A := fX11_debt M1 (a 1) (a 2) (if a 3 = 0 then 0 else 1)) (A2 := fX12_debt M2 (a 1) (a 2) (if a 3 = 0 then 0 else 1)) ?_ (fun _ _ e => e)
    by_cases z : a 3 = 0
    · rw [if_pos z]
      exact up_B S (fun a j z => ⟨z.1, by omega⟩) (pair_debt h1.1 h2.1 h3.1 (a 1) (a 2) false)
    · rw [if_neg z]
      exact up_B S (fun a j z => ⟨z.1, by omega⟩) (pair_debt h1.1 h2.1 h3.1 (a 1) (a 2) true)
  | 2, _ => exact (up_T S (pair_feed h4 h5 h6 (a 1) (a 2) (a 3) (a 4) (a 5))).s (fun _ _ e => e)
  | 3, _ => exact (up_T S (pair_end h4 h5 h6 (a 1))).s (fun _ _ e => e)
  | 4, _ => exact (up_C S).s (fun _ _ e => e)
  | 5, _ => exact (up_B S (fun a j z => ⟨z.1, by omega⟩) (pair_keeps h1.1 h2.1 h3.1 h3.2.1 h1.2.2 h2.2.2.1 (a 1) (a 2))).s (fun _ _ e => e)
  | 6, _ => exact (up_0 S (pair_told h1 h2 h3 (a 1) (a 2))).s (fun _ _ e => e)
  | 7, _ => exact (up_G S (LK.up h10 (fun m hm _ => pair_weighs h1 h2 h3 hm (a 1) (a 2) (a 3) (a 4) (a 5) (a 6) (a 7) (a 8)))).s (fun _ _ e => e)
  | 8, _ => exact (up_W S (fun m hm hl => pair_quarrel h1 h2 h3 hm (by omega) (a 1) (a 2) (a 3) (a 4))).s (fun _ _ e => e)
  | 9, _ => exact (up_G S (LK.up h10 (fun m hm _ => pair_state h1 h2 h3 hm (a 1) (a 2)))).s (fun _ _ e => e)
  | 10, _ => exact (up_G S (LK.up h10 (fun m hm hl => pair_may h1 h2 h3 hm (by omega) (a 1)))).s (fun _ _ e => e)
  | 11, _ => exact (up_W S (fun m hm hl => pair_move h1 h2 h3 hm (by omega) (a 1) (a 2))).s (fun _ _ e => e)
  | 12, _ => exact (up_0 S (pair_history h1.1 h2.1 h3.1 (a 1) (a 2))).s (fun _ _ e => e)
  | 13, _ => exact (up_G S (pair_ends h1 h2 h3 h10 hk1 (a 1))).s (fun _ _ e => e)
  | 14, _ => exact (up_G S (pair_ways h1 h2 h3 h10 hk1 (a 1) (a 2))).s (fun _ _ e => e)
  | 15, _ => exact (up_G S (pair_brief h1 h2 h3 h10 hk1 (a 1) (a 2) (a 3))).s (fun _ _ e => e)
  | 16, _ => exact (up_G S (pair_must h1 h2 h3 h10 (a 1))).s (fun _ _ e => e)
  | 17, _ => exact (up_G S (pair_late h1 h2 h3 h10 (a 1))).s (fun _ _ e => e)
  | 18, _ => exact (up_G S (pair_game h1 h2 h3 h10 hk1 (a 1) (a 2))).s (fun _ _ e => e)
  | 19, _ => exact (up_G S (pair_otherwise h1 h2 h3 h10 hk1 (a 1) (a 2) (a 3))).s (fun _ _ e => e)
  | 20, _ => exact (up_G S (pair_doubt h1 h2 h3 h10 hk1 (a 1) (a 2))).s (fun _ _ e => e)
  | 21, _ => exact (up_G S (pair_hangs h1 h2 h3 h10 hk1 (a 1))).s (fun _ _ e => e)
  | 22, _ => exact (up_G S (LK.up h10 (fun m hm hl => pair_thinks h1 h2 h3 hm (by omega) (a 1) (a 2) (a 3)))).s (fun _ _ e => e)
  | 23, _ => exact (up_0 S (pair_waits h1.1 h2.1 h3.1 (a 1))).s (fun _ _ e => e)
  | 24, _ => exact (up_0 S (pair_ring h1.1 h2.1 h3.1 (a 1))).s (fun _ _ e => e)
  | 25, _ => exact (up_0 S (pair_first h1.1 h2.1 h3.1 (a 1))).s (fun _ _ e => e)
  | 26, _ => exact (up_G S (pair_harsh h1 h2 h3 h10 hk1 (a 1) (a 2) (a 3) (a 4))).s (fun _ _ e => e)
  | 27, _ => exact (up_M S (pair_mend h1 h2 h3 h10 hk1 (a 1) (a 2) (a 3) (a 4) (a 5))).s (fun _ _ e => e)
  | 28, _ => exact (up_I S (pair_image h1 h2 h3 h7 h8 h9 (a 1))).s (fun _ _ e => e)
  | 29, _ => exact (up_I S (pair_back h1 h2 h3 h7 h8 h9 (a 1))).s (fun _ _ e => e)
  | 30, _ => exact (up_0 S (pair_count h1.1 h2.1 h3.1 h1.2.2 h2.2.2.1 h4.1 h5.1 (a 1))).s (fun _ _ e => e)
  | 31, _ => exact ⟨M1, M2, ⟨rfl, rfl⟩, nc, B, Cs, n, b, im, h1, h2, h3, h4, h5, h6, h7, h8, h9, h10.up⟩
  | m + 32, h => exact absurd h (by omega)
end CALLS
