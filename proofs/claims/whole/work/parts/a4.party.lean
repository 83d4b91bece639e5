/-! the reference's meets, party, load, writes; what stands on both sides -/
def SQ (a j : Nat) : Prop := a = 1000 ∧ 26 ≤ j ∧ j ≤ 29
def S2 (a j : Nat) : Prop := a = 1000 ∧ 14 ≤ j ∧ j ≤ 41 ∧ j ≠ 25
def S1 (a j : Nat) : Prop := a = 4 ∨ ((a = 7 ∨ a = 8 ∨ a = 9) ∧ j = 0) ∨ (10 ≤ a ∧ a < 20 ∧ j = 6)
def S5 (a j : Nat) : Prop := S1 a j ∨ a = 5 ∨ a = 6
theorem SD_2 {a j : Nat} (h : SD a j) : S2 a j := by
  unfold SD at h
  unfold S2
  omega
theorem SQ_2 {a j : Nat} (h : SQ a j) : S2 a j := by
  unfold SQ at h
  unfold S2
  omega
theorem SA_1 {a j : Nat} (h : SA a j) : S1 a j := by
  unfold SA at h
  unfold S1
  omega
theorem SS_1 {a j : Nat} (h : SS a j) : S1 a j := by
  unfold SS at h
  unfold S1
  omega
/-- the affair of a quarrel -/
def eQ (B : BK) (Cs : Nat → CD) (Q : QR) : EV := (B, (r_p Q 0, r_p Q 1, r_l Q), (Cs (r_c Q 0), Cs (r_c Q 1)), 0)
/-- its hours -/
def r_h (Cs : Nat → CD) (Q : QR) : Nat := if c_h (Cs (r_c Q 1)) < c_h (Cs (r_c Q 0)) then c_h (Cs (r_c Q 1)) else c_h (Cs (r_c Q 0))
def r_wf (Cs : Nat → CD) (Q : QR) : Prop := r_m Q 0 < 4 ∧ ∀ k, k < r_n Q → s_e (r_s Q k) = 0 → s_z (r_s Q k) = 0 ∧ s_l (r_s Q k) = r_h Cs Q - k ∧ 0 < s_l (r_s Q k) ∧ s_t (r_s Q k) = (1 + k) % 2 ∧ (s_k (r_s Q k) = 0 ∨ s_k (r_s Q k) = 2 - s_t (r_s Q k))
/-- all is as it must be -/
def KO (nc : Nat) (B : BK) (Cs : Nat → CD) : Prop := b_ok nc B ∧ nc ≤ 6 ∧ (∀ k, k < nc → c_ok (Cs k)) ∧ ∀ q, q < b_q B → r_wf Cs (b_r B q)
def K1 (M : QM) (nc : Nat) (B : BK) (Cs : Nat → CD) : Prop := RB1 M 20 B ∧ (∀ k, k < nc → RC1 M (10 + k) (Cs k)) ∧ q_i M 0 10 = nI nc
def K2 (M : QM) (nc : Nat) (B : BK) (Cs : Nat → CD) : Prop := RM2 M B ∧ (∀ k, k < nc → RC2 M k (Cs k)) ∧ q_i M 1000 5 = nI nc ∧ q_i M 1000 25 = nI 0
theorem K1.kept {S : Nat → Nat → Prop} {M N : QM} {nc : Nat} {B : BK} {Cs : Nat → CD} (h : K1 M nc B Cs) (k : kp S M N) (hS : ∀ a j, S a j → S1 a j) (h6 : nc ≤ 6) : K1 N nc B Cs :=
  ⟨h.1.kept k (by decide) (fun x j z => by have z := hS _ _ z; unfold S1 at z; omega), fun c hc => (h.2.1 c hc).any k (fun j z => by have z := hS _ _ z; unfold S1 at z; omega), (k.i (fun z => by have z := hS _ _ z; unfold S1 at z; omega)).trans h.2.2⟩
theorem K1.kept5 {S : Nat → Nat → Prop} {M N : QM} {nc : Nat} {B : BK} {Cs : Nat → CD} (h : K1 M nc B Cs) (k : kp S M N) (hS : ∀ a j, S a j → S5 a j) (h6 : nc ≤ 6) : K1 N nc B Cs :=
  ⟨h.1.kept k (by decide) (fun x j z => by have z := hS _ _ z; unfold S5 S1 at z; omega), fun c hc => (h.2.1 c hc).any k (fun j z => by have z := hS _ _ z; unfold S5 S1 at z; omega), (k.i (fun z => by have z := hS _ _ z; unfold S5 S1 at z; omega)).trans h.2.2⟩
theorem K2.kept {S : Nat → Nat → Prop} {M N : QM} {nc : Nat} {B : BK} {Cs : Nat → CD} (h : K2 M nc B Cs) (k : kp S M N) (hS : ∀ a j, S a j → S2 a j) : K2 N nc B Cs :=
  ⟨h.1.kept k (fun j z => by have z := hS _ _ z; unfold S2 at z; omega), fun c hc => (h.2.1 c hc).kept (k.wd (fun a j z => by have z := hS _ _ z; unfold S2 at z; omega)), (k.i (fun z => by have z := hS _ _ z; unfold S2 at z; omega)).trans h.2.2.1, (k.i (fun z => by have z := hS _ _ z; unfold S2 at z; omega)).trans h.2.2.2⟩
/-- whose it is, as it must be -/
def r_ob (np nc : Nat) (Q : QR) : Prop := r_p Q 0 < np ∧ r_p Q 1 < np ∧ r_p Q 0 ≠ r_p Q 1 ∧ r_c Q 0 < nc ∧ r_c Q 1 < nc ∧ r_l Q < 10
theorem r_ok.b {np nc : Nat} {Q : QR} (h : r_ok np nc Q) : r_ob np nc Q := ⟨h.1, h.2.1, h.2.2.1, h.2.2.2.1, h.2.2.2.2.1, h.2.2.2.2.2.1⟩
section PARTY
variable {nc a : Nat} {M : QM} {B : BK} {Cs : Nat → CD}
theorem KO.q (h : KO nc B Cs) {q : Nat} (hq : q < b_q B) : r_ok (b_n B) nc (b_r B q) := h.1.2.2.2 q hq
theorem KO.v (h : KO nc B Cs) {Q : QR} (hQ : r_ob (b_n B) nc Q) : v_ok nc (eQ B Cs Q) := ⟨h.1, hQ.1, hQ.2.1, hQ.2.2.1, hQ.2.2.2.2.2, h.2.2.1 _ hQ.2.2.2.1, h.2.2.1 _ hQ.2.2.2.2.1, by show 0 < 64; decide⟩
theorem r_wf.w (h : KO nc B Cs) {Q : QR} (hQ : r_ok (b_n B) nc Q) (hw : r_wf Cs Q) {k : Nat} (hk : k < r_n Q) : v_w (eQ B Cs Q) (r_s Q k) := by
  refine ⟨(hQ.2.2.2.2.2.2.2.2.1 k hk).2, fun h0 => ?_⟩
  obtain ⟨h1, h2, h3, h4, h5⟩ := hw.2 k hk h0
  have e : v_h (eQ B Cs Q) = r_h Cs Q := rfl
  rw [e]
  exact ⟨h1, h3, by omega, by omega, h5⟩
theorem sX12_meets0 {p0 p1 d c0 c1 m : Nat} (h : RM2 M B ∧ ∀ k, k < nc → RC2 M k (Cs k)) (hc0 : c0 < nc) (hc1 : c1 < nc) (hn : nc ≤ 6) (hb : c_h (Cs c0) < 9 ∧ c_h (Cs c1) < 9) (hm : q_i M 1000 25 = nI m) :
    qV (fX12_meets M (nI p0) (nI p1) (nI d) (nI c0) (nI c1)) (fun N => PY N (B, (p0, p1, d), (Cs c0, Cs c1), m) c0 c1 ∧ kp SQ M N) := by
  have e0 : q_a M 1000 12 c0 = nI (c_h (Cs c0)) := (h.2 _ hc0).2.2.1
  have e1 : q_a M 1000 12 c1 = nI (c_h (Cs c1)) := (h.2 _ hc1).2.2.1
  have b0 := hb.1
  have b1 := hb.2
  have fin : ∀ x : Nat, x = (if c_h (Cs c1) < c_h (Cs c0) then c_h (Cs c1) else c_h (Cs c0)) → qV (fX12_meets_b70 (p_i (p_a (p_a (p_a (p_a M 1000 26 0 (nI p0)) 1000 26 1 (nI p1)) 1000 27 0 (nI c0)) 1000 27 1 (nI c1)) 1000 28 (nI d)) (nI x)) (fun N => PY N (B, (p0, p1, d), (Cs c0, Cs c1), m) c0 c1 ∧ kp SQ M N) := fun x ex => by
    have kk : kp SQ M (p_i (p_i (p_a (p_a (p_a (p_a M 1000 26 0 (nI p0)) 1000 26 1 (nI p1)) 1000 27 0 (nI c0)) 1000 27 1 (nI c1)) 1000 28 (nI d)) 1000 29 (nI x)) := by
      refine kp.tr (kp.tr (kp.tr (kp.tr (kp.tr (kp_a ?_) (kp_a ?_)) (kp_a ?_)) (kp_a ?_)) (kp_i ?_)) (kp_i ?_) <;> exact ⟨rfl, by decide, by decide⟩
    unfold fX12_meets_b70
    simp (disch := omega) only [y_lit, y_lt_T, y_lt_F, y_le_T, y_le_F, y_eq_T, y_eq_F, y_in_T, y_cl, ↓reduceIte, y_bs, y_bvs, y_os, y_on, y_t, ne_eq, not_true_eq_false, not_false_eq_true, pk_mul, nI_add]
    refine qV_s ⟨⟨by omega, by omega, h.1.kept kk (fun j z => by unfold SQ at z; omega), fun k hk => ?_, fun k hk => ?_, ?_, ?_, ?_⟩, kk⟩
    · match k, hk with
      | 0, _ => exact (h.2 _ hc0).kept (kk.wd (fun a j z => by unfold SQ at z; omega))
      | 1, _ => exact (h.2 _ hc1).kept (kk.wd (fun a j z => by unfold SQ at z; omega))
    · match k, hk with
      | 0, _ => simp [q_a_p_i, q_a_p_a, v_p, c_e]
      | 1, _ => simp [q_a_p_i, q_a_p_a, v_p, c_e]
    · simp [q_i_p_i, v_d]
    · simp [q_i_p_i]
      rw [ex]
      rfl
    · simp [q_i_p_i, q_i_p_a]
      exact hm
  unfold fX12_meets
  simp (disch := omega) only [y_lit, y_lt_T, y_lt_F, y_le_T, y_le_F, y_eq_T, y_eq_F, y_in_T, y_cl, ↓reduceIte, y_bs, y_bvs, y_os, y_on, y_t, ne_eq, not_true_eq_false, not_false_eq_true, pk_mul, nI_add, y_ii, y_ia, y_il, y_ir, y_ai, y_aa, y_al, y_ar, y_li, y_la, y_ll, y_lr, y_ri, y_ra, y_rl, y_rr, and_true, true_and, and_false, false_and, and_self, if_true, if_false, Nat.reduceEqDiff, reduceCtorEq, or_false, false_or, or_true, true_or, e0, e1]
  by_cases c : c_h (Cs c1) ≤ c_h (Cs c0)
  · simp (disch := omega) only [y_lit, y_lt_T, y_lt_F, y_le_T, y_le_F, y_eq_T, y_eq_F, y_in_T, y_cl, ↓reduceIte, y_bs, y_bvs, y_os, y_on, y_t, ne_eq, not_true_eq_false, not_false_eq_true, pk_mul, nI_add, y_ii, y_ia, y_il, y_ir, y_ai, y_aa, y_al, y_ar, y_li, y_la, y_ll, y_lr, y_ri, y_ra, y_rl, y_rr, and_true, true_and, and_false, false_and, and_self, if_true, if_false, Nat.reduceEqDiff, reduceCtorEq, or_false, false_or, or_true, true_or]
    refine fin _ ?_
    by_cases c2 : c_h (Cs c1) < c_h (Cs c0)
    · rw [if_pos c2]
    · rw [if_neg c2]
      omega
  · simp (disch := omega) only [y_lit, y_lt_T, y_lt_F, y_le_T, y_le_F, y_eq_T, y_eq_F, y_in_T, y_cl, ↓reduceIte, y_bs, y_bvs, y_os, y_on, y_t, ne_eq, not_true_eq_false, not_false_eq_true, pk_mul, nI_add, y_ii, y_ia, y_il, y_ir, y_ai, y_aa, y_al, y_ar, y_li, y_la, y_ll, y_lr, y_ri, y_ra, y_rl, y_rr, and_true, true_and, and_false, false_and, and_self, if_true, if_false, Nat.reduceEqDiff, reduceCtorEq, or_false, false_or, or_true, true_or]
    exact fin _ (by rw [if_neg (by omega)])
theorem sX12_meets {p0 p1 d c0 c1 m : Nat} (h : K2 M nc B Cs) (hc0 : c0 < nc) (hc1 : c1 < nc) (hn : nc ≤ 6) (hb : c_h (Cs c0) < 9 ∧ c_h (Cs c1) < 9) (hm : q_i M 1000 25 = nI m) :
    qV (fX12_meets M (nI p0) (nI p1) (nI d) (nI c0) (nI c1)) (fun N => PY N (B, (p0, p1, d), (Cs c0, Cs c1), m) c0 c1 ∧ kp SQ M N) := sX12_meets0 ⟨h.1, h.2.1⟩ hc0 hc1 hn hb hm
theorem sX12_party (h : K2 M nc B Cs) (ok : KO nc B Cs) {q : Nat} (hq : q < 24) {Q : QR} (hQ : r_ob (b_n B) nc Q) (e0 : q_a M 1000 43 (64 * q) = nI (r_p Q 0)) (e1 : q_a M 1000 43 (64 * q + 1) = nI (r_p Q 1)) (e2 : q_a M 1000 43 (64 * q + 2) = nI (r_l Q)) (e3 : q_a M 1000 43 (64 * q + 3) = nI (r_c Q 0)) (e4 : q_a M 1000 43 (64 * q + 4) = nI (r_c Q 1)) :
    qV (fX12_party M (nI q)) (fun N => PY N (eQ B Cs Q) (r_c Q 0) (r_c Q 1) ∧ kp SQ M N) := by
  have hc0 := ok.2.2.1 _ hQ.2.2.2.1
  have hc1 := ok.2.2.1 _ hQ.2.2.2.2.1
  unfold fX12_party
  simp (disch := omega) only [y_lit, y_lt_T, y_lt_F, y_le_T, y_le_F, y_eq_T, y_eq_F, y_in_T, y_cl, ↓reduceIte, y_bs, y_bvs, y_os, y_on, y_t, ne_eq, not_true_eq_false, not_false_eq_true, pk_mul, nI_add, e0, e1, e2, e3, e4]
  refine qV_bv (qV.to (sX12_meets h hQ.2.2.2.1 hQ.2.2.2.2.1 ok.2.1 ⟨hc0.2.2.1, hc1.2.2.1⟩ h.2.2.2) (fun N g => ?_))
  exact qV_s g
theorem sX12_load (h : K2 M nc B Cs) (ok : KO nc B Cs) {q k : Nat} (hq : q < b_q B) (hk : k < r_n (b_r B q)) : qV (fX12_load M (nI q) (nI k)) (fun N => PY N (eQ B Cs (b_r B q)) (r_c (b_r B q) 0) (r_c (b_r B q) 1) ∧ RST N (r_s (b_r B q) k) ∧ kp S2 M N) := by
  have h24 := ok.1.2.1
  have hQ := ok.q hq
  have hn9 : r_n (b_r B q) ≤ 9 := hQ.2.2.2.2.2.2.2.1
  obtain ⟨e0, e1, e2, e3, e4, e5, e6, e7, e8⟩ := h.1.2.2.2 q hq
  have es : nI (r_n (b_r B q)) - nI 1 = nI (r_n (b_r B q) - 1) := pk_sub (by omega)
  unfold fX12_load
  refine qV_bv (qV.to (sX12_party h ok (by omega) hQ.b e0 e1 e2 e3 e4) (fun N g => ?_))
  obtain ⟨P, k1⟩ := g
  have T : ∀ i, q_a N 1000 43 i = q_a M 1000 43 i := fun i => k1.a (by unfold SQ; omega)
  obtain ⟨f0, f1, f2, f3, f4, f5⟩ := e8 k hk
  have e5 : q_a M 1000 43 (64 * q + 5) = nI (r_n (b_r B q)) := e5
  have e6 : q_a M 1000 43 (64 * q + 6) = nI (s_e (r_now (b_r B q))) := e6
  have e7 : q_a M 1000 43 (64 * q + 7) = nI (s_z (r_now (b_r B q))) := e7
  have f1 : q_a M 1000 43 (64 * q + 17 + 5 * k) = nI (s_o (r_s (b_r B q) k) 0) := f1
  have f2 : q_a M 1000 43 (64 * q + 17 + 5 * k + 1) = nI (s_o (r_s (b_r B q) k) 1) := f2
  have f3 : s_e (r_s (b_r B q) k) = 0 → q_a M 1000 43 (64 * q + 17 + 5 * k + 2) = nI (s_t (r_s (b_r B q) k)) := f3
  have f4 : q_a M 1000 43 (64 * q + 17 + 5 * k + 3) = nI (s_k (r_s (b_r B q) k)) - nI 1 := f4
  have f5 : q_a M 1000 43 (64 * q + 17 + 5 * k + 4) = nI (s_l (r_s (b_r B q) k)) := f5
  simp (disch := omega) only [y_lit, y_lt_T, y_lt_F, y_le_T, y_le_F, y_eq_T, y_eq_F, y_in_T, y_cl, ↓reduceIte, y_bs, y_bvs, y_os, y_on, y_t, ne_eq, not_true_eq_false, not_false_eq_true, pk_mul, nI_add, y_ii, y_ia, y_il, y_ir, y_ai, y_aa, y_al, y_ar, y_li, y_la, y_ll, y_lr, y_ri, y_ra, y_rl, y_rr, and_true, true_and, and_false, false_and, and_self, if_true, if_false, Nat.reduceEqDiff, reduceCtorEq, or_false, false_or, or_true, true_or, T, f1, f2, f4, f5, e5, es]
  have kN : kp SD N (p_i (p_i (p_i (p_a (p_a N 1000 30 0 (nI (s_o (r_s (b_r B q) k) 0))) 1000 30 1 (nI (s_o (r_s (b_r B q) k) 1))) 1000 31 (q_a M 1000 43 (64 * q + 17 + 5 * k + 2))) 1000 32 (nI (s_k (r_s (b_r B q) k)) - nI 1)) 1000 33 (nI (s_l (r_s (b_r B q) k)))) := by
    refine kp.tr (kp.tr (kp.tr (kp.tr (kp_a ?_) (kp_a ?_)) (kp_i ?_)) (kp_i ?_)) (kp_i ?_) <;> exact SDi (by decide)
  have fin : ∀ u v : Nat, u = s_e (r_s (b_r B q) k) → v = s_z (r_s (b_r B q) k) → qV (some (p_i (p_i (p_i (p_i (p_i (p_a (p_a N 1000 30 0 (nI (s_o (r_s (b_r B q) k) 0))) 1000 30 1 (nI (s_o (r_s (b_r B q) k) 1))) 1000 31 (q_a M 1000 43 (64 * q + 17 + 5 * k + 2))) 1000 32 (nI (s_k (r_s (b_r B q) k)) - nI 1)) 1000 33 (nI (s_l (r_s (b_r B q) k)))) 1000 34 (nI u)) 1000 35 (nI v))) (fun N => PY N (eQ B Cs (b_r B q)) (r_c (b_r B q) 0) (r_c (b_r B q) 1) ∧ RST N (r_s (b_r B q) k) ∧ kp S2 M N) := fun u v eu ev => by
    have k3 := kN.tr (kp.tr (kp_i (o := 1000) (j := 34) (v := nI u) (SDi (by decide))) (kp_i (o := 1000) (j := 35) (v := nI v) (SDi (by decide))))
    refine qV_s ⟨P.kept k3 (fun a j z => z), ⟨fun x hx => ?_, fun z => ?_, ?_, ?_, ?_, ?_⟩, (k1.wd (fun a j z => SQ_2 z)).tr (k3.wd (fun a j z => SD_2 z))⟩
    · match x, hx with
      | 0, _ => simp [q_a_p_i, q_a_p_a]
      | 1, _ => simp [q_a_p_i, q_a_p_a]
    · simp [q_i_p_i]
      exact f3 z
    · simp [q_i_p_i]
    · simp [q_i_p_i]
    · simp [q_i_p_i]
      rw [eu]
    · simp [q_i_p_i]
      rw [ev]
  by_cases c : k = r_n (b_r B q) - 1
  · have ek : r_now (b_r B q) = r_s (b_r B q) k := by rw [c]; rfl
    rw [ek] at e6 e7
    simp (disch := omega) only [y_lit, y_lt_T, y_lt_F, y_le_T, y_le_F, y_eq_T, y_eq_F, y_in_T, y_cl, ↓reduceIte, y_bs, y_bvs, y_os, y_on, y_t, ne_eq, not_true_eq_false, not_false_eq_true, pk_mul, nI_add, y_ii, y_ia, y_il, y_ir, y_ai, y_aa, y_al, y_ar, y_li, y_la, y_ll, y_lr, y_ri, y_ra, y_rl, y_rr, and_true, true_and, and_false, false_and, and_self, if_true, if_false, Nat.reduceEqDiff, reduceCtorEq, or_false, false_or, or_true, true_or, T, fX12_load_b101, fX12_load_b125, fX12_load_b150, e6, e7]
    exact fin _ _ rfl rfl
  · have z := hQ.2.2.2.2.2.2.2.2.2 k (by omega)
    simp (disch := omega) only [y_lit, y_lt_T, y_lt_F, y_le_T, y_le_F, y_eq_T, y_eq_F, y_in_T, y_cl, ↓reduceIte, y_bs, y_bvs, y_os, y_on, y_t, ne_eq, not_true_eq_false, not_false_eq_true, pk_mul, nI_add, y_ii, y_ia, y_il, y_ir, y_ai, y_aa, y_al, y_ar, y_li, y_la, y_ll, y_lr, y_ri, y_ra, y_rl, y_rr, and_true, true_and, and_false, false_and, and_self, if_true, if_false, Nat.reduceEqDiff, reduceCtorEq, or_false, false_or, or_true, true_or, T, fX12_load_b101, fX12_load_b125, fX12_load_b150]
    exact fin _ _ z.1.symm z.2.symm
theorem sX12_loadLast (h : K2 M nc B Cs) (ok : KO nc B Cs) {q : Nat} (hq : q < b_q B) : qV (fX12_loadLast M (nI q)) (fun N => PY N (eQ B Cs (b_r B q)) (r_c (b_r B q) 0) (r_c (b_r B q) 1) ∧ RST N (r_now (b_r B q)) ∧ kp S2 M N) := by
  have h24 := ok.1.2.1
  have hQ := ok.q hq
  have hn0 : 0 < r_n (b_r B q) := hQ.2.2.2.2.2.2.1
  have hn9 : r_n (b_r B q) ≤ 9 := hQ.2.2.2.2.2.2.2.1
  have e5 : q_a M 1000 43 (64 * q + 5) = nI (r_n (b_r B q)) := (h.1.2.2.2 q hq).2.2.2.2.2.1
  have es : nI (r_n (b_r B q)) - nI 1 = nI (r_n (b_r B q) - 1) := pk_sub (by omega)
  unfold fX12_loadLast
  simp (disch := omega) only [y_lit, y_lt_T, y_lt_F, y_le_T, y_le_F, y_eq_T, y_eq_F, y_in_T, y_cl, ↓reduceIte, y_bs, y_bvs, y_os, y_on, y_t, ne_eq, not_true_eq_false, not_false_eq_true, pk_mul, nI_add, e5, es]
  refine qV_bv (qV.to (sX12_load h ok hq (k := r_n (b_r B q) - 1) (by omega)) (fun N g => ?_))
  exact qV_s g
end PARTY
