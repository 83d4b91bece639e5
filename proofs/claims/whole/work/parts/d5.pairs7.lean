/-- the images, as the class and as the reference hold them -/
def IM1 (M : QM) (im : Nat → Option BK) : Prop := ∀ k, k < 4 → (im k = none → q_i M (21 + k) 8 = nI 0) ∧ ∀ B, im k = some B → q_i M (21 + k) 8 = nI 1 ∧ RB1 M (21 + k) B
def IB2 (M : QM) (k : Nat) (B : BK) : Prop := RB2 (fun i => q_a M 1000 44 (1730 * k + 2 + i)) (fun i => q_a M 1000 44 (1730 * k + 50 + i)) (fun i => q_a M 1000 44 (1730 * k + 194 + i)) (q_a M 1000 44 (1730 * k)) (q_a M 1000 44 (1730 * k + 1)) B
def IM2 (M : QM) (im : Nat → Option BK) : Prop := ∀ k, k < 4 → (im k = none → q_a M 1000 45 k = nI 0) ∧ ∀ B, im k = some B → q_a M 1000 45 k = nI 1 ∧ IB2 M k B
def IO (nc : Nat) (Cs : Nat → CD) (im : Nat → Option BK) : Prop := ∀ k, k < 4 → ∀ B, im k = some B → KO nc B Cs
theorem RB1.keptO {M N : QM} {o : Nat} {B : BK} (h : RB1 M o B) (h24 : b_q B ≤ 24) {S : Nat → Nat → Prop} (k : kp S M N) (hS : ∀ x j, S x j → ¬ oB o x) : RB1 N o B := by
  have no : ∀ j, ¬ S o j := fun j z => hS _ _ z (Or.inl rfl)
  refine ⟨(k.i (no _)).trans h.1, (k.i (no _)).trans h.2.1, fun i hi => ?_, fun q hq => (h.2.2.2 q hq).kept k (fun j z => hS _ _ z (Or.inr ⟨q, by omega, rfl⟩))⟩
  obtain ⟨g1, g2, g3, g4, g5⟩ := h.2.2.1 i hi
  exact ⟨(k.a (no _)).trans g1, (k.a (no _)).trans g2, (k.a (no _)).trans g3, (k.a (no _)).trans g4, (k.a (no _)).trans g5⟩
theorem RB1.keptF {M N : QM} {o : Nat} {B : BK} (h : RB1 M o B) (ho : 20 ≤ o) (ho2 : o < 25) {S : Nat → Nat → Prop} (k : kp S M N) (hS : ∀ x j, S x j → x = o ∧ j = 8) : RB1 N o B := by
  have no : ∀ j, j ≠ 8 → ¬ S o j := fun j q z => q (hS _ _ z).2
  refine ⟨(k.i (no _ (by decide))).trans h.1, (k.i (no _ (by decide))).trans h.2.1, fun i hi => ?_, fun q hq => (h.2.2.2 q hq).kept k (fun j z => by have := (hS _ _ z).1; rw [el_qN ho] at this; omega)⟩
  obtain ⟨g1, g2, g3, g4, g5⟩ := h.2.2.1 i hi
  exact ⟨(k.a (no _ (by decide))).trans g1, (k.a (no _ (by decide))).trans g2, (k.a (no _ (by decide))).trans g3, (k.a (no _ (by decide))).trans g4, (k.a (no _ (by decide))).trans g5⟩
theorem IM1.kept {M N : QM} {im : Nat → Option BK} {nc : Nat} {Cs : Nat → CD} (h : IM1 M im) (ok : IO nc Cs im) {S : Nat → Nat → Prop} (k : kp S M N) (hS : ∀ x j, S x j → x < 21 ∨ (100 ≤ x ∧ x < 124)) : IM1 N im := fun i hi => by
  have no : ∀ j, ¬ S (21 + i) j := fun j z => by have := hS _ _ z; omega
  refine ⟨fun e => (k.i (no _)).trans ((h i hi).1 e), fun B e => ?_⟩
  obtain ⟨g1, g2⟩ := (h i hi).2 B e
  refine ⟨(k.i (no _)).trans g1, g2.keptO ((ok i hi B e).1.2.1) k (fun x j z q => ?_)⟩
  have := hS _ _ z
  rcases q with q | ⟨c, hc, q⟩
  · omega
  · rw [el_qN (by omega)] at q
    omega
theorem IM2.kept {M N : QM} {im : Nat → Option BK} (h : IM2 M im) {S : Nat → Nat → Prop} (k : kp S M N) (hS : ∀ x j, S x j → x = 1000 → j ≠ 44 ∧ j ≠ 45) : IM2 N im := fun i hi => by
  have n4 : ¬ S 1000 44 := fun z => (hS _ _ z rfl).1 rfl
  have n5 : ¬ S 1000 45 := fun z => (hS _ _ z rfl).2 rfl
  refine ⟨fun e => (k.a n5).trans ((h i hi).1 e), fun B e => ?_⟩
  obtain ⟨g1, g2⟩ := (h i hi).2 B e
  refine ⟨(k.a n5).trans g1, ?_⟩
  unfold IB2 at g2 ⊢
  have ea : ∀ c, q_a N 1000 44 c = q_a M 1000 44 c := fun c => k.a n4
  simp only [ea]
  exact g2
/-- two calls that copy books -/
def LI (M1 M2 : QM) (nc : Nat) (Cs : Nat → CD) (A A2 : Option (Int32 × QM)) : Prop := ∃ r N1 N2 B im, A = some (r, N1) ∧ A2 = some (r, N2) ∧ K1 N1 nc B Cs ∧ K2 N2 nc B Cs ∧ KO nc B Cs ∧ IM1 N1 im ∧ IM2 N2 im ∧ IO nc Cs im ∧ kp (fun x _ => 20 ≤ x) M1 N1 ∧ kp (fun x j => x = 1000 ∧ (j = 0 ∨ j = 1 ∨ j = 2 ∨ 42 ≤ j)) M2 N2
section PAIRI
variable {nc : Nat} {M M1 M2 : QM} {B : BK} {Cs : Nat → CD} {im : Nat → Option BK}
theorem K1.book {N : QM} {B2 : BK} (h : K1 M nc B Cs) (h6 : nc ≤ 6) (hB : RB1 N 20 B2) (k : kp (fun x _ => 20 ≤ x) M N) : K1 N nc B2 Cs := ⟨hB, fun c hc => (h.2.1 c hc).any k (fun j z => by omega), (k.i (by omega)).trans h.2.2⟩
theorem RC2.book {N : QM} {t : Nat} {C : CD} (h : RC2 M t C) (k : kp (fun x j => x = 1000 ∧ (j = 0 ∨ j = 1 ∨ j = 2 ∨ 42 ≤ j)) M N) : RC2 N t C := by
  unfold RC2 at h ⊢
  rw [k.a (by decide), k.a (by decide), k.a (by decide), k.a (by decide), k.a (by decide)]
  refine ⟨h.1, h.2.1, h.2.2.1, h.2.2.2.1, h.2.2.2.2.1, fun i hi hs => ?_, fun j hj => (k.a (by decide)).trans (h.2.2.2.2.2.2 j hj)⟩
  rw [k.a (by decide), k.a (by decide), k.a (by decide), k.a (by decide), k.a (by decide)]
  exact h.2.2.2.2.2.1 i hi hs
theorem K2.book {N : QM} {B2 : BK} (h : K2 M nc B Cs) (hB : RM2 N B2) (k : kp (fun x j => x = 1000 ∧ (j = 0 ∨ j = 1 ∨ j = 2 ∨ 42 ≤ j)) M N) : K2 N nc B2 Cs := ⟨hB, fun c hc => (h.2.1 c hc).book k, (k.i (by decide)).trans h.2.2.1, (k.i (by decide)).trans h.2.2.2⟩
theorem pair_image (h1 : K1 M1 nc B Cs) (h2 : K2 M2 nc B Cs) (ok : KO nc B Cs) (i1 : IM1 M1 im) (i2 : IM2 M2 im) (io : IO nc Cs im) (x : Int32) : LI M1 M2 nc Cs (fX11_image M1 x) (fX12_image M2 x) := by
  have h24 := ok.1.2.1
  have h6 := ok.2.1
  rcases q_out_or x (n := 4) (by decide) with o | ⟨k, hk, rfl⟩
  · have z1 : fX11_isWithin M1 x 0 3 = some (0, M1) := w_out M1 (show 3 < 1000000 by decide) o
    have z2 : fX12_in M2 (Int32.toInt64 x) 0 3 = some (0, M2) := v_out M2 (show 3 < 1000000 by decide) o
    refine ⟨-1, M1, M2, B, im, ?_, ?_, h1, h2, ok, i1, i2, io, kp.rf, kp.rf⟩
    · unfold fX11_image
      rw [z1, q_b_s, if_neg (by decide)]
    · unfold fX12_image
      rw [z2, q_b_s, if_neg (by decide)]
  have y1 : fX11_isWithin M1 (nI k) 0 3 = some (1, M1) := w_in M1 (n := 3) (k := k) (by decide) (by omega)
  have y2 : fX12_in M2 (Int32.toInt64 (nI k)) 0 3 = some (1, M2) := v_in M2 (n := 3) (k := k) (by decide) (by omega)
  have ek : el 0 5 k = 21 + k := rfl
  obtain ⟨N1, e1, R1, k1⟩ := sX1_copy (a := 21 + k) (b := 20) (by omega) (by omega) (by decide) (by decide) (by omega) h1.1 ok.1
  have kF : kp (fun x j => x = 21 + k ∧ j = 8) N1 (p_i N1 (21 + k) 8 (nI 1)) := kp_i ⟨rfl, rfl⟩
  have kA : kp (fun x _ => oB (21 + k) x) M1 (p_i N1 (21 + k) 8 (nI 1)) := k1.tr (kp_i (Or.inl rfl))
  have n20 : ∀ x j, (fun x (_ : Nat) => oB (21 + k) x) x j → 20 ≤ x := fun x j z => by
    rcases z with z | ⟨q, hq, z⟩
    · omega
    · rw [el_qN (by omega)] at z
      omega
  have R2 := R1.keptF (by omega) (by omega) kF (fun x j z => z)
  have hB20 : RB1 (p_i N1 (21 + k) 8 (nI 1)) 20 B := h1.1.keptO h24 kA (fun x j z q => by
    rcases q with q | ⟨c, hc, q⟩
    · subst q
      exact (oB_no (a := 21 + k) (b := 20) (by omega) (by omega) (by decide) (by decide) (by omega)).1 z
    · subst q
      exact (oB_no (a := 21 + k) (b := 20) (by omega) (by omega) (by decide) (by decide) (by omega)).2 c hc z)
  let N0 := p_a (p_a (p_a M2 1000 45 k (nI 1)) 1000 44 (1730 * k) (q_i M2 1000 0)) 1000 44 (1730 * k + 1) (q_i M2 1000 42)
  obtain ⟨P1, f1, l1, c1⟩ := sX12_image_b51 (N0 := N0) (b := 1730 * k) (by omega) 48 0 q_F N0 (by decide) (q_Fn (by decide)) kp.rf cpF_0.symm
  obtain ⟨P2, f2, l2, c2⟩ := sX12_image_b81 (N0 := P1) (b := 1730 * k) (by omega) 144 0 q_F P1 (by decide) (q_Fn (by decide)) kp.rf cpF_0.symm
  obtain ⟨P3, f3, l3, c3⟩ := sX12_image_b113 (N0 := P2) (b := 1730 * k) (by omega) 1536 0 q_F P2 (by decide) (q_Fn (by decide)) kp.rf cpF_0.symm
  have l03 : kp (fun a j => a = 1000 ∧ j = 44) N0 P3 := (l1.tr l2).tr l3
  have lM : kp (fun x j => x = 1000 ∧ (j = 44 ∨ j = 45)) M2 P3 := (((kp_a ⟨rfl, Or.inr rfl⟩).tr (kp_a ⟨rfl, Or.inl rfl⟩)).tr (kp_a ⟨rfl, Or.inl rfl⟩)).tr (l03.wd (fun a j z => ⟨z.1, Or.inl z.2⟩))
  have cell : ∀ c, q_a P3 1000 44 c = if 1730 * k + 194 ≤ c ∧ c < 1730 * k + 194 + 1536 then q_a M2 1000 43 (c - (1730 * k + 194)) else if 1730 * k + 50 ≤ c ∧ c < 1730 * k + 50 + 144 then q_a M2 1000 2 (c - (1730 * k + 50)) else if 1730 * k + 2 ≤ c ∧ c < 1730 * k + 2 + 48 then q_a M2 1000 1 (c - (1730 * k + 2)) else q_a N0 1000 44 c := fun c => by
    have e3 := congrFun c3 c
    have e2 := congrFun c2 c
    have e1 := congrFun c1 c
    unfold cpF at e1 e2 e3
    have s3 : ∀ d, q_a P2 1000 43 d = q_a M2 1000 43 d := fun d => ((l1.tr l2).a (by decide)).trans (by simp only [N0, y_ii, y_ia, y_il, y_ir, y_ai, y_aa, y_al, y_ar, y_li, y_la, y_ll, y_lr, y_ri, y_ra, y_rl, y_rr, and_true, true_and, and_false, false_and, and_self, if_true, if_false, Nat.reduceEqDiff, reduceCtorEq, or_false, false_or, or_true, true_or])
    have s2 : ∀ d, q_a P1 1000 2 d = q_a M2 1000 2 d := fun d => (l1.a (by decide)).trans (by simp only [N0, y_ii, y_ia, y_il, y_ir, y_ai, y_aa, y_al, y_ar, y_li, y_la, y_ll, y_lr, y_ri, y_ra, y_rl, y_rr, and_true, true_and, and_false, false_and, and_self, if_true, if_false, Nat.reduceEqDiff, reduceCtorEq, or_false, false_or, or_true, true_or])
    have s1 : ∀ d, q_a N0 1000 1 d = q_a M2 1000 1 d := fun d => by simp only [N0, y_ii, y_ia, y_il, y_ir, y_ai, y_aa, y_al, y_ar, y_li, y_la, y_ll, y_lr, y_ri, y_ra, y_rl, y_rr, and_true, true_and, and_false, false_and, and_self, if_true, if_false, Nat.reduceEqDiff, reduceCtorEq, or_false, false_or, or_true, true_or]
    simp only [s3] at e3
    simp only [s2] at e2
    simp only [s1] at e1
    rw [e3, e2, e1]
  have out : ∀ c, (c < 1730 * k ∨ 1730 * k + 1730 ≤ c) → q_a P3 1000 44 c = q_a M2 1000 44 c := fun c hc => by
    rw [cell c, if_neg (by omega), if_neg (by omega), if_neg (by omega)]
    have a1 : ¬ c = 1730 * k := by omega
    have a2 : ¬ c = 1730 * k + 1 := by omega
    simp only [N0, y_ii, y_ia, y_il, y_ir, y_ai, y_aa, y_al, y_ar, y_li, y_la, y_ll, y_lr, y_ri, y_ra, y_rl, y_rr, and_true, true_and, and_false, false_and, and_self, if_true, if_false, Nat.reduceEqDiff, reduceCtorEq, or_false, false_or, or_true, true_or, a1, a2]
  have I2 : IB2 P3 k B := by
    refine RB2.eq (n := q_a P3 1000 44 (1730 * k)) (q := q_a P3 1000 44 (1730 * k + 1)) ?_ ok.1 (P := fun i => q_a M2 1000 1 i) (O := fun i => q_a M2 1000 2 i) (T := fun i => q_a M2 1000 43 i) (fun c hc => ?_) (fun c hc => ?_) (fun c hc => ?_)
    · have a1 : q_a P3 1000 44 (1730 * k) = q_i M2 1000 0 := by
        rw [cell _, if_neg (by omega), if_neg (by omega), if_neg (by omega)]
        have a2 : ¬ 1730 * k = 1730 * k + 1 := by omega
        simp only [N0, y_ii, y_ia, y_il, y_ir, y_ai, y_aa, y_al, y_ar, y_li, y_la, y_ll, y_lr, y_ri, y_ra, y_rl, y_rr, and_true, true_and, and_false, false_and, and_self, if_true, if_false, Nat.reduceEqDiff, reduceCtorEq, or_false, false_or, or_true, true_or, a2]
      have a3 : q_a P3 1000 44 (1730 * k + 1) = q_i M2 1000 42 := by
        rw [cell _, if_neg (by omega), if_neg (by omega), if_neg (by omega)]
        simp only [N0, y_ii, y_ia, y_il, y_ir, y_ai, y_aa, y_al, y_ar, y_li, y_la, y_ll, y_lr, y_ri, y_ra, y_rl, y_rr, and_true, true_and, and_false, false_and, and_self, if_true, if_false, Nat.reduceEqDiff, reduceCtorEq, or_false, false_or, or_true, true_or]
      rw [a1, a3]
      exact h2.1
    · show q_a P3 1000 44 (1730 * k + 2 + c) = _
      rw [cell _, if_neg (by omega), if_neg (by omega), if_pos (by omega), show 1730 * k + 2 + c - (1730 * k + 2) = c by omega]
    · show q_a P3 1000 44 (1730 * k + 50 + c) = _
      rw [cell _, if_neg (by omega), if_pos (by omega), show 1730 * k + 50 + c - (1730 * k + 50) = c by omega]
    · show q_a P3 1000 44 (1730 * k + 194 + c) = _
      rw [cell _, if_pos (by omega), show 1730 * k + 194 + c - (1730 * k + 194) = c by omega]
  have mk : ∀ c, q_a P3 1000 45 c = if c = k then nI 1 else q_a M2 1000 45 c := fun c => by
    rw [l03.a (by decide)]
    simp only [N0, y_ii, y_ia, y_il, y_ir, y_ai, y_aa, y_al, y_ar, y_li, y_la, y_ll, y_lr, y_ri, y_ra, y_rl, y_rr, and_true, true_and, and_false, false_and, and_self, if_true, if_false, Nat.reduceEqDiff, reduceCtorEq, or_false, false_or, or_true, true_or]
  refine ⟨nI (b_q B), p_i N1 (21 + k) 8 (nI 1), P3, B, u_f im k (some B), ?_, ?_, h1.book h6 hB20 (kA.wd n20), h2.book (h2.1.kept lM (fun j z => by omega)) (lM.wd (fun x j z => by omega)), ok, fun i hi => ?_, fun i hi => ?_, fun i hi B2 e => ?_, kA.wd n20, lM.wd (fun x j z => by omega)⟩
  · have e7 : q_i (p_i N1 (21 + k) 8 (nI 1)) 20 7 = nI (b_q B) := hB20.2.1
    unfold fX11_image
    rw [y1, q_b_s, if_pos (by decide)]
    simp (disch := omega) only [y_lit, y_lt_T, y_lt_F, y_le_T, y_le_F, y_eq_T, y_eq_F, y_in_T, y_cl, ↓reduceIte, y_bs, y_bvs, y_os, y_on, y_t, ne_eq, not_true_eq_false, not_false_eq_true, pk_mul, nI_add, ek]
    rw [e1, q_bv_s]
    exact congrArg some (Prod.ext e7 rfl)
  · have e42 : q_i P3 1000 42 = nI (b_q B) := (lM.i (by decide)).trans h2.1.2.1
    unfold fX12_image
    rw [y2, q_b_s, if_pos (by decide)]
    simp (disch := omega) only [y_lit, y_lt_T, y_lt_F, y_le_T, y_le_F, y_eq_T, y_eq_F, y_in_T, y_cl, ↓reduceIte, y_bs, y_bvs, y_os, y_on, y_t, ne_eq, not_true_eq_false, not_false_eq_true, pk_mul, nI_add, y_ii, y_ia, y_il, y_ir, y_ai, y_aa, y_al, y_ar, y_li, y_la, y_ll, y_lr, y_ri, y_ra, y_rl, y_rr, and_true, true_and, and_false, false_and, and_self, if_true, if_false, Nat.reduceEqDiff, reduceCtorEq, or_false, false_or, or_true, true_or, y_b1]
    refine f1.trans ?_
    unfold fX12_image_b79
    rw [nI0]
    refine f2.trans ?_
    unfold fX12_image_b111
    rw [nI0]
    refine f3.trans ?_
    unfold fX12_image_b144
    rw [e42]
  · by_cases q : i = k
    · subst q
      rw [u_f_e]
      refine ⟨fun z => (by cases z), fun B2 e => ?_⟩
      cases e
      refine ⟨?_, R2⟩
      simp only [y_ii, y_ia, y_il, y_ir, y_ai, y_aa, y_al, y_ar, y_li, y_la, y_ll, y_lr, y_ri, y_ra, y_rl, y_rr, and_true, true_and, and_false, false_and, and_self, if_true, if_false, Nat.reduceEqDiff, reduceCtorEq, or_false, false_or, or_true, true_or]
    · rw [u_f_n _ _ q]
      have no : ¬ oB (21 + k) (21 + i) := fun z => by
        rcases z with z | ⟨c, hc, z⟩
        · omega
        · rw [el_qN (by omega)] at z
          omega
      refine ⟨fun e => (kA.i no).trans ((i1 i hi).1 e), fun B2 e => ?_⟩
      obtain ⟨g1, g2⟩ := (i1 i hi).2 B2 e
      refine ⟨(kA.i no).trans g1, g2.keptO (io i hi B2 e).1.2.1 kA (fun x j z q2 => ?_)⟩
      rcases q2 with q2 | ⟨c, hc, q2⟩
      · subst q2
        exact no z
      · subst q2
        exact (oB_no (a := 21 + k) (b := 21 + i) (by omega) (by omega) (by omega) (by omega) (by omega)).2 c hc z
  · by_cases q : i = k
    · subst q
      rw [u_f_e, mk, if_pos rfl]
      refine ⟨fun z => (by cases z), fun B2 e => ?_⟩
      cases e
      exact ⟨rfl, I2⟩
    · rw [u_f_n _ _ q, mk, if_neg q]
      refine ⟨(i2 i hi).1, fun B2 e => ?_⟩
      obtain ⟨g1, g2⟩ := (i2 i hi).2 B2 e
      refine ⟨g1, ?_⟩
      unfold IB2 at g2 ⊢
      rw [out _ (by omega), out _ (by omega)]
      exact RB2.eq g2 (io i hi B2 e).1 (fun c hc => out _ (by omega)) (fun c hc => out _ (by omega)) (fun c hc => out _ (by omega))
  · by_cases q : i = k
    · subst q
      rw [u_f_e] at e
      cases e
      exact ok
    · rw [u_f_n _ _ q] at e
      exact io i hi B2 e
theorem pair_back (h1 : K1 M1 nc B Cs) (h2 : K2 M2 nc B Cs) (ok : KO nc B Cs) (i1 : IM1 M1 im) (i2 : IM2 M2 im) (io : IO nc Cs im) (x : Int32) : LI M1 M2 nc Cs (fX11_back M1 x) (fX12_back M2 x) := by
  have h6 := ok.2.1
  rcases q_out_or x (n := 4) (by decide) with o | ⟨k, hk, rfl⟩
  · have z1 : fX11_isWithin M1 x 0 3 = some (0, M1) := w_out M1 (show 3 < 1000000 by decide) o
    have z2 : fX12_in M2 (Int32.toInt64 x) 0 3 = some (0, M2) := v_out M2 (show 3 < 1000000 by decide) o
    refine ⟨-1, M1, M2, B, im, ?_, ?_, h1, h2, ok, i1, i2, io, kp.rf, kp.rf⟩
    · unfold fX11_back
      rw [z1, q_b_s, if_pos (by decide)]
    · unfold fX12_back
      rw [z2, q_b_s, if_pos (by decide)]
  have y1 : fX11_isWithin M1 (nI k) 0 3 = some (1, M1) := w_in M1 (n := 3) (k := k) (by decide) (by omega)
  have y2 : fX12_in M2 (Int32.toInt64 (nI k)) 0 3 = some (1, M2) := v_in M2 (n := 3) (k := k) (by decide) (by omega)
  have ek : el 0 5 k = 21 + k := rfl
  cases hb : im k with
  | none =>
    have a1 := (i1 k hk).1 hb
    have a2 := (i2 k hk).1 hb
    refine ⟨-1, M1, M2, B, im, ?_, ?_, h1, h2, ok, i1, i2, io, kp.rf, kp.rf⟩
    · unfold fX11_back
      rw [y1, q_b_s, if_neg (by decide)]
      simp (disch := omega) only [y_lit, y_lt_T, y_lt_F, y_le_T, y_le_F, y_eq_T, y_eq_F, y_in_T, y_cl, ↓reduceIte, y_bs, y_bvs, y_os, y_on, y_t, ne_eq, not_true_eq_false, not_false_eq_true, pk_mul, nI_add, ek, a1]
    · unfold fX12_back
      rw [y2, q_b_s, if_neg (by decide)]
      simp (disch := omega) only [y_lit, y_lt_T, y_lt_F, y_le_T, y_le_F, y_eq_T, y_eq_F, y_in_T, y_cl, ↓reduceIte, y_bs, y_bvs, y_os, y_on, y_t, ne_eq, not_true_eq_false, not_false_eq_true, pk_mul, nI_add, a2]
  | some B2 =>
    have ok2 := io k hk B2 hb
    obtain ⟨a1, b1⟩ := (i1 k hk).2 B2 hb
    obtain ⟨a2, b2⟩ := (i2 k hk).2 B2 hb
    obtain ⟨N1, e1, R1, k1⟩ := sX1_copy (a := 20) (b := 21 + k) (by decide) (by decide) (by omega) (by omega) (by omega) b1 ok2.1
    have n20 : ∀ x j, (fun x (_ : Nat) => oB 20 x) x j → 20 ≤ x ∧ (x < 21 ∨ (100 ≤ x ∧ x < 124)) := fun x j z => by
      rcases z with z | ⟨q, hq, z⟩
      · omega
      · rw [el_qN (by omega)] at z
        omega
    let N0 := p_i (p_i M2 1000 0 (q_a M2 1000 44 (1730 * k))) 1000 42 (q_a M2 1000 44 (1730 * k + 1))
    obtain ⟨P1, f1, l1, c1⟩ := sX12_back_b53 (N0 := N0) (b := 1730 * k) (by omega) 48 0 q_F N0 (by decide) (q_Fn (by decide)) kp.rf cpF_0.symm
    obtain ⟨P2, f2, l2, c2⟩ := sX12_back_b83 (N0 := P1) (b := 1730 * k) (by omega) 144 0 q_F P1 (by decide) (q_Fn (by decide)) kp.rf cpF_0.symm
    obtain ⟨P3, f3, l3, c3⟩ := sX12_back_b115 (N0 := P2) (b := 1730 * k) (by omega) 1536 0 q_F P2 (by decide) (q_Fn (by decide)) kp.rf cpF_0.symm
    have l0 : kp (fun x j => x = 1000 ∧ (j = 0 ∨ j = 42)) M2 N0 := (kp_i ⟨rfl, Or.inl rfl⟩).tr (kp_i ⟨rfl, Or.inr rfl⟩)
    have lM : kp (fun x j => x = 1000 ∧ (j = 0 ∨ j = 1 ∨ j = 2 ∨ j = 42 ∨ j = 43)) M2 P3 := (((l0.wd (fun x j z => by omega)).tr (l1.wd (fun x j z => by omega))).tr (l2.wd (fun x j z => by omega))).tr (l3.wd (fun x j z => by omega))
    have m44 : ∀ c, q_a P3 1000 44 c = q_a M2 1000 44 c := fun c => lM.a (by decide)
    have g44a : ∀ c, q_a N0 1000 44 c = q_a M2 1000 44 c := fun c => l0.a (by decide)
    have g44b : ∀ c, q_a P1 1000 44 c = q_a M2 1000 44 c := fun c => (l1.a (by decide)).trans (g44a c)
    have g44c : ∀ c, q_a P2 1000 44 c = q_a M2 1000 44 c := fun c => (l2.a (by decide)).trans (g44b c)
    have p1 : ∀ c, c < 48 → q_a P3 1000 1 c = q_a M2 1000 44 (1730 * k + 2 + c) := fun c hc => by
      rw [l3.a (by decide), l2.a (by decide)]
      have e := congrFun c1 c
      unfold cpF at e
      rw [if_pos (by omega)] at e
      exact e.trans (g44a _)
    have p2 : ∀ c, c < 144 → q_a P3 1000 2 c = q_a M2 1000 44 (1730 * k + 50 + c) := fun c hc => by
      rw [l3.a (by decide)]
      have e := congrFun c2 c
      unfold cpF at e
      rw [if_pos (by omega)] at e
      exact e.trans (g44b _)
    have p3 : ∀ c, c < 1536 → q_a P3 1000 43 c = q_a M2 1000 44 (1730 * k + 194 + c) := fun c hc => by
      have e := congrFun c3 c
      unfold cpF at e
      rw [if_pos (by omega)] at e
      exact e.trans (g44c _)
    have q0 : q_i P3 1000 0 = q_a M2 1000 44 (1730 * k) := by
      rw [l3.i (by decide), l2.i (by decide), l1.i (by decide)]
      simp only [N0, y_ii, y_ia, y_il, y_ir, y_ai, y_aa, y_al, y_ar, y_li, y_la, y_ll, y_lr, y_ri, y_ra, y_rl, y_rr, and_true, true_and, and_false, false_and, and_self, if_true, if_false, Nat.reduceEqDiff, reduceCtorEq, or_false, false_or, or_true, true_or]
    have q42 : q_i P3 1000 42 = q_a M2 1000 44 (1730 * k + 1) := by
      rw [l3.i (by decide), l2.i (by decide), l1.i (by decide)]
      simp only [N0, y_ii, y_ia, y_il, y_ir, y_ai, y_aa, y_al, y_ar, y_li, y_la, y_ll, y_lr, y_ri, y_ra, y_rl, y_rr, and_true, true_and, and_false, false_and, and_self, if_true, if_false, Nat.reduceEqDiff, reduceCtorEq, or_false, false_or, or_true, true_or]
    have R2 : RM2 P3 B2 := by
      unfold RM2
      rw [q0, q42]
      exact RB2.eq b2 ok2.1 (fun c hc => p1 c hc) (fun c hc => p2 c hc) (fun c hc => p3 c hc)
    refine ⟨nI (b_q B2), N1, P3, B2, im, ?_, ?_, h1.book h6 R1 (k1.wd (fun x j z => (n20 x j z).1)), h2.book R2 (lM.wd (fun x j z => by omega)), ok2, i1.kept io k1 (fun x j z => (n20 x j z).2), i2.kept lM (fun x j z _ => by omega), io, k1.wd (fun x j z => (n20 x j z).1), lM.wd (fun x j z => by omega)⟩
    · unfold fX11_back
      rw [y1, q_b_s, if_neg (by decide)]
      simp (disch := omega) only [y_lit, y_lt_T, y_lt_F, y_le_T, y_le_F, y_eq_T, y_eq_F, y_in_T, y_cl, ↓reduceIte, y_bs, y_bvs, y_os, y_on, y_t, ne_eq, not_true_eq_false, not_false_eq_true, pk_mul, nI_add, ek, a1]
      rw [e1, q_bv_s, R1.2.1]
    · unfold fX12_back
      rw [y2, q_b_s, if_neg (by decide)]
      simp (disch := omega) only [y_lit, y_lt_T, y_lt_F, y_le_T, y_le_F, y_eq_T, y_eq_F, y_in_T, y_cl, ↓reduceIte, y_bs, y_bvs, y_os, y_on, y_t, ne_eq, not_true_eq_false, not_false_eq_true, pk_mul, nI_add, a2, y_ii, y_ia, y_il, y_ir, y_ai, y_aa, y_al, y_ar, y_li, y_la, y_ll, y_lr, y_ri, y_ra, y_rl, y_rr, and_true, true_and, and_false, false_and, and_self, if_true, if_false, Nat.reduceEqDiff, reduceCtorEq, or_false, false_or, or_true, true_or]
      refine f1.trans ?_
      unfold fX12_back_b81
      rw [nI0]
      refine f2.trans ?_
      unfold fX12_back_b113
      rw [nI0]
      refine f3.trans ?_
      unfold fX12_back_b146
      rw [R2.2.1]
end PAIRI
