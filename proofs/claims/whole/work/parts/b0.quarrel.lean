/-! quarrel: both sides -/
def S1q (a j : Nat) : Prop := S1 a j ∨ a = 20 ∨ (100 ≤ a ∧ a < 124)
def S2q (a j : Nat) : Prop := S2 a j ∨ (a = 1000 ∧ (j = 42 ∨ j = 43))
/-- two calls that may change the book: what is afterwards -/
def WR (M1 M2 : QM) (nc a : Nat) (Cs : Nat → CD) (A A2 : Option (Int32 × QM)) : Prop := ∃ r N1 N2 B1, A = some (r, N1) ∧ A2 = some (r, N2) ∧ K1 N1 nc B1 Cs ∧ K2 N2 nc B1 Cs ∧ KO nc B1 Cs ∧ kp S1q M1 N1 ∧ kp S2q M2 N2 ∧ ∃ b, b ≤ a + 1 ∧ MA N1 b
section QUARREL
variable {nc a : Nat} {M M1 M2 : QM} {B : BK} {Cs : Nat → CD}
theorem sXp_study (hB : RBp M 20 B) (hC : ∀ k, k < nc → RC1 M (10 + k) (Cs k)) (ok : KO nc B Cs) {o : Nat} {Q : QR} (hR : RQ1 M o Q) (hQ : r_ob (b_n B) nc Q) (hA : MA M a) (ha : a < 2000000000) : qV (fX11_study M o) (fun N => AF N (eQ B Cs Q) (r_c Q 0) (r_c Q 1) ∧ MA N (a + 1) ∧ kp SS M N) := by
  have h6 := ok.2.1
  have c0 : r_c Q 0 < 6 := Nat.lt_of_lt_of_le hQ.2.2.2.1 h6
  have c1 : r_c Q 1 < 6 := Nat.lt_of_lt_of_le hQ.2.2.2.2.1 h6
  unfold fX11_study
  rw [hR.2.2.1, sX11_codeAt c0, q_b_s, if_pos (kls_c c0), hR.2.2.2.1, sX11_codeAt c1, q_b_s, if_pos (kls_c c1), hR.1, hR.2.1, hR.2.2.2.2.1]
  refine qV_bv (qV.to (sXp_set (C0 := Cs (r_c Q 0)) (C1 := Cs (r_c Q 1)) hB (ok.v hQ) c0 c1 (hC _ hQ.2.2.2.1) (hC _ hQ.2.2.2.2.1) hA ha) (fun N g => ?_))
  exact qV_s g
/-- the quarrel without a history -/
def q0 (f s cf cs d : Nat) : QR := ((f, s, cf, cs, d), 0, fun _ => 0, fun _ => (0, 0, 0, 0, 0, 0, 0))
theorem bQ_ok (ok : KO nc B Cs) (hq : b_q B < 24) {f s cf cs d kind : Nat} (hb : r_ob (b_n B) nc (q0 f s cf cs d)) (hk : kind < 4) : KO nc (bQ B (rA (q0 f s cf cs d) kind (v_1 (eQ B Cs (q0 f s cf cs d)) kind true))) Cs := by
  have hv := ok.v hb
  have hw := v_1w hv kind true
  have hh := v_h_le hv
  refine ⟨⟨ok.1.1, ?_, ok.1.2.2.1, fun q hq2 => ?_⟩, ok.2.1, ok.2.2.1, fun q hq2 => ?_⟩
  · show b_q B + 1 ≤ 24
    omega
  · have hq2 : q < b_q B + 1 := hq2
    by_cases e : q = b_q B
    · subst e
      rw [show b_r (bQ B (rA (q0 f s cf cs d) kind (v_1 (eQ B Cs (q0 f s cf cs d)) kind true))) (b_q B) = rA (q0 f s cf cs d) kind (v_1 (eQ B Cs (q0 f s cf cs d)) kind true) from fU_s _ _ _]
      refine ⟨hb.1, hb.2.1, hb.2.2.1, hb.2.2.2.1, hb.2.2.2.2.1, hb.2.2.2.2.2, Nat.succ_pos _, (show 1 ≤ 9 by decide), fun k hk2 => ?_, fun k hk2 => absurd hk2 (by rw [rA_n]; show ¬ k + 1 < 0 + 1; omega)⟩
      have e0 : k = 0 := by
        rw [rA_n] at hk2
        have : k < 0 + 1 := hk2
        omega
      subst e0
      have e1 := rA_mN (q0 f s cf cs d) kind (v_1 (eQ B Cs (q0 f s cf cs d)) kind true)
      have e2 := rA_sN (q0 f s cf cs d) kind (v_1 (eQ B Cs (q0 f s cf cs d)) kind true)
      have n0 : r_n (q0 f s cf cs d) = 0 := rfl
      rw [n0] at e1 e2
      rw [e1, e2]
      exact ⟨by omega, hw.1⟩
    · rw [show b_r (bQ B (rA (q0 f s cf cs d) kind (v_1 (eQ B Cs (q0 f s cf cs d)) kind true))) q = b_r B q from fU_n _ _ e]
      exact ok.1.2.2.2 q (by omega)
  · have hq2 : q < b_q B + 1 := hq2
    by_cases e : q = b_q B
    · subst e
      rw [show b_r (bQ B (rA (q0 f s cf cs d) kind (v_1 (eQ B Cs (q0 f s cf cs d)) kind true))) (b_q B) = rA (q0 f s cf cs d) kind (v_1 (eQ B Cs (q0 f s cf cs d)) kind true) from fU_s _ _ _]
      have e1 := rA_mN (q0 f s cf cs d) kind (v_1 (eQ B Cs (q0 f s cf cs d)) kind true)
      have e2 := rA_sN (q0 f s cf cs d) kind (v_1 (eQ B Cs (q0 f s cf cs d)) kind true)
      have n0 : r_n (q0 f s cf cs d) = 0 := rfl
      rw [n0] at e1 e2
      refine ⟨by rw [e1]; exact hk, fun k hk2 => ?_⟩
      have e0 : k = 0 := by
        rw [rA_n] at hk2
        have : k < 0 + 1 := hk2
        omega
      subst e0
      rw [e2]
      exact fun _ => ⟨rfl, rfl, hh.1, rfl, Or.inl rfl⟩
    · rw [show b_r (bQ B (rA (q0 f s cf cs d) kind (v_1 (eQ B Cs (q0 f s cf cs d)) kind true))) q = b_r B q from fU_n _ _ e]
      exact ok.2.2.2 q (by omega)
theorem quarrel_1 (h : K1 M nc B Cs) (ok : KO nc B Cs) (hA : MA M a) (ha : a < 2000000000) (hq : b_q B < 24) {f s cf cs d kind : Nat} (hb : r_ob (b_n B) nc (q0 f s cf cs d)) (ef : b_code B f = some cf) (es : b_code B s = some cs) (hk : kind < 4) :
    qW (fX11_quarrel M (nI f) (nI s) (nI d) (nI kind)) (fun r N => r = nI (b_q B) ∧ K1 N nc (bQ B (rA (q0 f s cf cs d) kind (v_1 (eQ B Cs (q0 f s cf cs d)) kind true))) Cs ∧ kp S1q M N ∧ MA N (a + 1)) := by
  have h12 := ok.1.1
  have h6 := ok.2.1
  have hf : f < b_n B := hb.1
  have hs : s < b_n B := hb.2.1
  have hfs : f ≠ s := hb.2.2.1
  have hcf : cf < nc := hb.2.2.2.1
  have hcs : cs < nc := hb.2.2.2.2.1
  have hd : d < 10 := hb.2.2.2.2.2
  have d1 : fX11_isWithin M (nI d) 0 9 = some (1, M) := w_in M (n := 9) (k := d) (by decide) (by omega)
  have k1 : fX11_isWithin M (nI kind) 0 3 = some (1, M) := w_in M (n := 3) (k := kind) (by decide) (by omega)
  have c1 := sX1_codeOf h.1 h12 hf
  have c2 := sX1_codeOf h.1 h12 hs
  rw [ef] at c1
  rw [es] at c2
  obtain ⟨_, N1, e1, rfl, R1, kN1⟩ := sX1_addQuarrel h.1 (by decide) (by decide) ok.1 hq hf hs (d := d) ef es
  have eo : el 20 5 (b_q B) = 100 + b_q B := by rw [el_qN (by decide)]
  have hq1 : b_q (bQ B (q0 f s cf cs d)) = b_q B + 1 := rfl
  have RQ := R1.2.2.2 (b_q B) (by show b_q B < b_q B + 1; omega)
  rw [show b_r (bQ B ((f, s, cf, cs, d), 0, fun _ => 0, fun _ => (0, 0, 0, 0, 0, 0, 0))) (b_q B) = q0 f s cf cs d from fU_s _ _ _] at RQ
  have at1 : fX1_quarrelAt N1 20 (nI (b_q B)) = some (some (el 20 5 (b_q B)), N1) := sX1_quarrelAt R1 (by show b_q B + 1 ≤ 24; omega) (by show b_q B < b_q B + 1; omega)
  have Bp : RBp N1 20 B := (h.1.p).kept kN1 (fun j z => by rcases z with z | z <;> omega)
  have Cp : ∀ k, k < nc → RC1 N1 (10 + k) (Cs k) := fun k hk => (h.2.1 k hk).any kN1 (fun j z => by rcases z with z | z <;> omega)
  have mp : MA N1 a := hA.kept kN1 (fun z => by rcases z with z | z <;> omega) (fun z => by rcases z with z | z <;> omega)
  obtain ⟨N2, e2, A2, m2, kN2⟩ := sXp_study Bp Cp ok RQ hb mp ha
  obtain ⟨_, N3, e3, rfl, A3, m3, kN3⟩ := sX0_open (ok.v hb) A2 m2 hk true
  have k23 : kp S1 N1 N3 := (kN2.wd (fun a j z => SS_1 z)).tr (kN3.wd (fun a j z => SA_1 z))
  have RQ3 : RQ1 N3 (el 20 5 (b_q B)) (q0 f s cf cs d) := RQ.kept k23 (fun j z => by unfold S1 at z; omega)
  obtain ⟨N4, e4, RQ4, kN4⟩ := sX4_add RQ3 (show 0 < 9 by decide) kind (v_1 (eQ B Cs (q0 f s cf cs d)) kind true)
  have k14 : kp (fun x j => S1 x j ∨ x = el 20 5 (b_q B)) N1 N4 := (k23.wd (fun _ _ z => Or.inl z)).tr (kN4.wd (fun _ _ z => Or.inr z))
  refine ⟨nI (b_q B), N4, ?_, rfl, ⟨⟨?_, ?_, fun i hi => ?_, fun q hq2 => ?_⟩, fun k hk => ?_, ?_⟩, ?_, ?_⟩
  · unfold fX11_quarrel
    rw [sX11_areTwo h.1 h12 hf hs hfs, q_b_s, if_neg (by decide), d1, q_b_s, if_neg (by decide), k1, q_b_s, if_pos (by decide), c1, q_b_s, show oI (some cf) = nI cf from rfl, sX11_hasCode h.2.2 h6 hcf, q_b_s, if_neg (by decide), c2, q_b_s, show oI (some cs) = nI cs from rfl, sX11_hasCode h.2.2 h6 hcs, q_b_s, if_pos (by decide), e1, q_b_s, at1, q_b_s, q_o_s, if_pos (kls_q (by omega)), e2, q_bv_s]
    have e3' : fX0_open N2 (nI kind) 1 = some (s_p (v_1 (eQ B Cs (q0 f s cf cs d)) kind true), N3) := e3
    rw [e3', q_b_s, e4, q_bv_s]
  · exact (k14.i (fun z => by unfold S1 at z; omega)).trans R1.1
  · exact (k14.i (fun z => by unfold S1 at z; omega)).trans R1.2.1
  · have g := R1.2.2.1 i hi
    have no : ∀ {j : Nat}, ¬ (S1 20 j ∨ 20 = el 20 5 (b_q B)) := fun z => by unfold S1 at z; omega
    unfold RP1 at g ⊢
    rw [k14.a no, k14.a no, k14.a no, k14.a no, k14.a no]
    exact g
  · have hq2 : q < b_q B + 1 := hq2
    by_cases e : q = b_q B
    · subst e
      rw [show b_r (bQ B (rA (q0 f s cf cs d) kind (v_1 (eQ B Cs (q0 f s cf cs d)) kind true))) (b_q B) = rA (q0 f s cf cs d) kind (v_1 (eQ B Cs (q0 f s cf cs d)) kind true) from fU_s _ _ _]
      exact RQ4
    · rw [show b_r (bQ B (rA (q0 f s cf cs d) kind (v_1 (eQ B Cs (q0 f s cf cs d)) kind true))) q = b_r B q from fU_n _ _ e]
      have g := R1.2.2.2 q hq2
      rw [show b_r (bQ B ((f, s, cf, cs, d), 0, fun _ => 0, fun _ => (0, 0, 0, 0, 0, 0, 0))) q = b_r B q from fU_n _ _ e] at g
      refine g.kept k14 (fun j z => ?_)
      have e1 : el 20 5 q = 100 + q := by rw [el_qN (by decide)]
      unfold S1 at z
      omega
  · exact (Cp k hk).any k14 (fun j z => by unfold S1 at z; omega)
  · exact (k14.i (fun z => by unfold S1 at z; omega)).trans ((kN1.i (fun z => by rcases z with z | z <;> omega)).trans h.2.2)
  · exact (kN1.wd (fun x j z => by unfold S1q; rcases z with z | z <;> omega)).tr (k14.wd (fun x j z => by
      rcases z with z | z
      · exact Or.inl z
      · unfold S1q
        omega))
  · exact m3.kept kN4 (fun z => by omega) (fun z => by omega)
theorem quarrel_2 (h : K2 M nc B Cs) (ok : KO nc B Cs) (hq : b_q B < 24) {f s cf cs d kind : Nat} (hb : r_ob (b_n B) nc (q0 f s cf cs d)) (ef : b_code B f = some cf) (es : b_code B s = some cs) (hk : kind < 4) :
    qW (fX12_quarrel M (nI f) (nI s) (nI d) (nI kind)) (fun r N => r = nI (b_q B) ∧ K2 N nc (bQ B (rA (q0 f s cf cs d) kind (v_1 (eQ B Cs (q0 f s cf cs d)) kind true))) Cs ∧ kp S2q M N) := by
  have h12 := ok.1.1
  have h6 := ok.2.1
  have hf : f < b_n B := hb.1
  have hs : s < b_n B := hb.2.1
  have hfs : f ≠ s := hb.2.2.1
  have hcf : cf < nc := hb.2.2.2.1
  have hcs : cs < nc := hb.2.2.2.2.1
  have hd : d < 10 := hb.2.2.2.2.2
  have d1 : fX12_in M (Int32.toInt64 (nI d)) 0 9 = some (1, M) := v_in M (n := 9) (k := d) (by decide) (by omega)
  have k1 : fX12_in M (Int32.toInt64 (nI kind)) 0 3 = some (1, M) := v_in M (n := 3) (k := kind) (by decide) (by omega)
  have c1 : q_a M 1000 1 (4 * f + 3) = nI cf := by
    have := (h.1.2.2.1 f hf).2.2.2.1
    rw [show (b_p B f).2.2.2.1 = some cf from ef] at this
    exact this
  have c2 : q_a M 1000 1 (4 * s + 3) = nI cs := by
    have := (h.1.2.2.1 s hs).2.2.2.1
    rw [show (b_p B s).2.2.2.1 = some cs from es] at this
    exact this
  have e42 : q_i M 1000 42 = nI (b_q B) := h.1.2.1
  have a1 : ∀ {N : QM} {i v} (k : Nat), q_a (p_a N 1000 43 i v) 1000 1 k = q_a N 1000 1 k := fun k => by rw [q_a_p_a, if_neg (fun z => absurd z.2.1 (by decide))]
  -- the row of the quarrel is begun
  let N1 : QM := p_a (p_a (p_a (p_a (p_a (p_a M 1000 43 (64 * b_q B) (nI f)) 1000 43 (64 * b_q B + 1) (nI s)) 1000 43 (64 * b_q B + 2) (nI d)) 1000 43 (64 * b_q B + 3) (nI cf)) 1000 43 (64 * b_q B + 4) (nI cs)) 1000 43 (64 * b_q B + 5) (nI 0)
  have kN1 : kp (fun x j => x = 1000 ∧ j = 43) M N1 := by
    refine kp.tr (kp.tr (kp.tr (kp.tr (kp.tr (kp_a ?_) (kp_a ?_)) (kp_a ?_)) (kp_a ?_)) (kp_a ?_)) (kp_a ?_) <;> exact ⟨rfl, rfl⟩
  have oth : ∀ i, (i < 64 * b_q B ∨ 64 * b_q B + 64 ≤ i) → q_a N1 1000 43 i = q_a M 1000 43 i := fun i hi => by
    show q_a (p_a (p_a (p_a (p_a (p_a (p_a M 1000 43 (64 * b_q B) (nI f)) 1000 43 (64 * b_q B + 1) (nI s)) 1000 43 (64 * b_q B + 2) (nI d)) 1000 43 (64 * b_q B + 3) (nI cf)) 1000 43 (64 * b_q B + 4) (nI cs)) 1000 43 (64 * b_q B + 5) (nI 0)) 1000 43 i = _
    simp (disch := omega) only [y_ne]
  have Z : RQ0 (fun i => q_a N1 1000 43 i) (b_q B) (q0 f s cf cs d) := by
    refine ⟨?_, ?_, ?_, ?_, ?_, ?_, fun k hk => absurd hk (Nat.not_lt_zero k)⟩ <;> show q_a (p_a (p_a (p_a (p_a (p_a (p_a M 1000 43 (64 * b_q B) (nI f)) 1000 43 (64 * b_q B + 1) (nI s)) 1000 43 (64 * b_q B + 2) (nI d)) 1000 43 (64 * b_q B + 3) (nI cf)) 1000 43 (64 * b_q B + 4) (nI cs)) 1000 43 (64 * b_q B + 5) (nI 0)) 1000 43 _ = _ <;> simp (disch := omega) only [y_ne, y_ee] <;> rfl
  have RMT : ∀ {N : QM}, (∀ j, j = 0 ∨ j = 42 → q_i N 1000 j = q_i M 1000 j) → (∀ j, j = 1 ∨ j = 2 → ∀ i, q_a N 1000 j i = q_a M 1000 j i) → (∀ i, (i < 64 * b_q B ∨ 64 * b_q B + 64 ≤ i) → q_a N 1000 43 i = q_a M 1000 43 i) → RM2 N B := fun {N} g1 g2 g3 => by
    have f1 : (fun i => q_a N 1000 1 i) = (fun i => q_a M 1000 1 i) := funext fun i => g2 1 (Or.inl rfl) i
    have f2 : (fun i => q_a N 1000 2 i) = (fun i => q_a M 1000 2 i) := funext fun i => g2 2 (Or.inr rfl) i
    refine ⟨(g1 0 (Or.inl rfl)).trans h.1.1, (g1 42 (Or.inr rfl)).trans h.1.2.1, fun i hi => ?_, fun q hq2 => (h.1.2.2.2 q hq2).same (ok.q hq2).2.2.2.2.2.2.2.1 (fun i h1 h2 => g3 i (by omega))⟩
    rw [f1, f2]
    exact h.1.2.2.1 i hi
  have K2N1 : K2 N1 nc B Cs := ⟨RMT (fun j z => kN1.i (by omega)) (fun j z i => kN1.a (by omega)) oth, fun k hk => by
      have g := h.2.1 k hk
      unfold RC2 at g ⊢
      rw [kN1.a (by decide), kN1.a (by decide), kN1.a (by decide), kN1.a (by decide), kN1.a (by decide)]
      refine ⟨g.1, g.2.1, g.2.2.1, g.2.2.2.1, g.2.2.2.2.1, fun i hi hs => ?_, fun j hj => (kN1.a (by decide)).trans (g.2.2.2.2.2.2 j hj)⟩
      rw [kN1.a (by decide), kN1.a (by decide), kN1.a (by decide), kN1.a (by decide), kN1.a (by decide)]
      exact g.2.2.2.2.2.1 i hi hs, (kN1.i (by decide)).trans h.2.2.1, (kN1.i (by decide)).trans h.2.2.2⟩
  obtain ⟨N2, e2, P2, kN2⟩ := sX12_party K2N1 ok hq hb Z.1 Z.2.1 Z.2.2.1 Z.2.2.2.1 Z.2.2.2.2.1
  obtain ⟨N3, e3, R3, kN3⟩ := sX12_slightsFirst P2 (ok.v hb) hk true
  have k13 : kp S2 N1 N3 := (kN2.wd (fun a j z => SQ_2 z)).tr (kN3.wd (fun a j z => SD_2 z))
  have Z3 : RQ0 (fun i => q_a N3 1000 43 i) (b_q B) (q0 f s cf cs d) := by
    have f1 : (fun i => q_a N3 1000 43 i) = (fun i => q_a N1 1000 43 i) := funext fun i => k13.a (by unfold S2; omega)
    rw [f1]
    exact Z
  obtain ⟨N4, e4, W4, o4, kN4⟩ := sX12_writes (m := kind) (Q := q0 f s cf cs d) hq (show 0 < 9 by decide) Z3 R3
  have k14 : kp (fun x j => S2 x j ∨ (x = 1000 ∧ j = 43)) N1 N4 := (k13.wd (fun _ _ z => Or.inl z)).tr (kN4.wd (fun _ _ z => Or.inr z))
  have i42 : ∀ {N : QM} {S : Nat → Nat → Prop}, kp S N1 N → ¬ S 1000 42 → q_i N 1000 42 = nI (b_q B) := fun k z => (k.i z).trans ((kN1.i (by decide)).trans e42)
  have u2 := i42 (kN2.wd (fun a j z => SQ_2 z)) (by unfold S2; omega)
  have u3 := i42 k13 (by unfold S2; omega)
  have u4 := i42 k14 (by unfold S2; omega)
  have u1 : q_i N1 1000 42 = nI (b_q B) := (kN1.i (by decide)).trans e42
  have kA : kp S2q M N4 := (kN1.wd (fun x j z => Or.inr ⟨z.1, Or.inr z.2⟩)).tr (k14.wd (fun x j z => by
    rcases z with z | z
    · exact Or.inl z
    · exact Or.inr ⟨z.1, Or.inr z.2⟩))
  have last : ∀ {N : QM}, kp (fun x j => S2 x j ∨ (x = 1000 ∧ j = 43)) N1 N → kp S2q M N := fun k => (kN1.wd (fun x j z => Or.inr ⟨z.1, Or.inr z.2⟩)).tr (k.wd (fun x j z => by
    rcases z with z | z
    · exact Or.inl z
    · exact Or.inr ⟨z.1, Or.inr z.2⟩))
  refine ⟨nI (b_q B), p_i N4 1000 42 (nI (b_q B + 1)), ?_, rfl, ⟨⟨?_, ?_, fun i hi => ?_, fun q hq2 => ?_⟩, fun k hk => ?_, ?_, ?_⟩, ?_⟩
  · have e3' : fX12_slightsFirst N2 (nI kind) 1 = some N3 := e3
    unfold fX12_quarrel
    rw [e42, if_neg (show ¬ nI (b_q B) = (24 : Int32) from fun z => by
      have := (nI_eq (b := 24) (by omega) (by decide)).mp z
      omega), sX12_areTwo h.1 h12 hf hs hfs, q_b_s, if_neg (by decide), d1, q_b_s, if_neg (by decide), k1, q_b_s, if_neg (by decide)]
    simp (disch := omega) only [y_lit, y_lt_T, y_lt_F, y_le_T, y_le_F, y_eq_T, y_eq_F, y_in_T, y_cl, ↓reduceIte, y_bs, y_bvs, y_os, y_on, y_t, ne_eq, not_true_eq_false, not_false_eq_true, pk_mul, nI_add, y_ia, a1, c1, c2, e42]
    have e2' : fX12_party (p_a (p_a (p_a (p_a (p_a (p_a M 1000 43 (64 * b_q B) (nI f)) 1000 43 (64 * b_q B + 1) (nI s)) 1000 43 (64 * b_q B + 2) (nI d)) 1000 43 (64 * b_q B + 3) (nI cf)) 1000 43 (64 * b_q B + 4) (nI cs)) 1000 43 (64 * b_q B + 5) (nI 0)) (nI (b_q B)) = some N2 := e2
    have e3'' : fX12_slightsFirst N2 (nI kind) (nI 1) = some N3 := e3
    rw [e2', q_bv_s, e3'', q_bv_s, u3, e4, q_bv_s, u4]
    simp (disch := omega) only [y_lit, y_lt_T, y_lt_F, y_le_T, y_le_F, y_eq_T, y_eq_F, y_in_T, y_cl, ↓reduceIte, y_bs, y_bvs, y_os, y_on, y_t, ne_eq, not_true_eq_false, not_false_eq_true, pk_mul, nI_add]
    rw [q_i_p_i, if_pos ⟨rfl, rfl⟩, pk_sub (by omega), Nat.add_sub_cancel]
  · show q_i (p_i N4 1000 42 _) 1000 0 = _
    rw [q_i_p_i, if_neg (by decide)]
    exact (kA.i (by unfold S2q S2; omega)).trans h.1.1
  · show q_i (p_i N4 1000 42 _) 1000 42 = _
    rw [q_i_p_i, if_pos ⟨rfl, rfl⟩]
    rfl
  · have f1 : (fun i => q_a (p_i N4 1000 42 (nI (b_q B + 1))) 1000 1 i) = (fun i => q_a M 1000 1 i) := funext fun i => kA.a (by unfold S2q S2; omega)
    have f2 : (fun i => q_a (p_i N4 1000 42 (nI (b_q B + 1))) 1000 2 i) = (fun i => q_a M 1000 2 i) := funext fun i => kA.a (by unfold S2q S2; omega)
    rw [f1, f2]
    exact h.1.2.2.1 i hi
  · have hq2 : q < b_q B + 1 := hq2
    show RQ2 (fun i => q_a N4 1000 43 i) q _
    by_cases e : q = b_q B
    · subst e
      rw [show b_r (bQ B (rA (q0 f s cf cs d) kind (v_1 (eQ B Cs (q0 f s cf cs d)) kind true))) (b_q B) = rA (q0 f s cf cs d) kind (v_1 (eQ B Cs (q0 f s cf cs d)) kind true) from fU_s _ _ _]
      exact W4
    · rw [show b_r (bQ B (rA (q0 f s cf cs d) kind (v_1 (eQ B Cs (q0 f s cf cs d)) kind true))) q = b_r B q from fU_n _ _ e]
      have hq3 : q < b_q B := by omega
      exact (h.1.2.2.2 q hq3).same (ok.q hq3).2.2.2.2.2.2.2.1 (fun i h1 h2 => (o4 i (by omega)).trans ((k13.a (by unfold S2; omega)).trans (oth i (by omega))))
  · have g := K2N1.2.1 k hk
    have kz : kp (fun x j => x = 1000 ∧ 14 ≤ j) N1 (p_i N4 1000 42 (nI (b_q B + 1))) := (k14.wd (fun x j z => by unfold S2 at z; omega)).tr (kp_i ⟨rfl, by decide⟩)
    unfold RC2 at g ⊢
    rw [kz.a (by decide), kz.a (by decide), kz.a (by decide), kz.a (by decide), kz.a (by decide)]
    refine ⟨g.1, g.2.1, g.2.2.1, g.2.2.2.1, g.2.2.2.2.1, fun i hi hs => ?_, fun j hj => (kz.a (by decide)).trans (g.2.2.2.2.2.2 j hj)⟩
    rw [kz.a (by decide), kz.a (by decide), kz.a (by decide), kz.a (by decide), kz.a (by decide)]
    exact g.2.2.2.2.2.1 i hi hs
  · rw [q_i_p_i, if_neg (by decide)]
    exact (kA.i (by unfold S2q S2; omega)).trans h.2.2.1
  · rw [q_i_p_i, if_neg (by decide)]
    exact (kA.i (by unfold S2q S2; omega)).trans h.2.2.2
  · exact kA.tr (kp_i (Or.inr ⟨rfl, Or.inl rfl⟩))
end QUARREL
