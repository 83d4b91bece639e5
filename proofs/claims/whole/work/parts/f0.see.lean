/-! the reference's reader: bytes, letters, digits, words -/
theorem w_i64 {x : Nat} (h : x < 2 ^ 31) : Int32.toInt64 (nI x) = lN x := by
  rw [← Int64.toInt_inj, Int32.toInt_toInt64, nI_toInt h, lN_toInt h]
theorem w_eq {a c : Nat} (ha : a < 2 ^ 63) (hc : c < 2 ^ 63) : lN a = lN c ↔ a = c := by
  rw [← Int64.toInt_inj]
  unfold lN
  rw [lg_ofNat_toInt ha, lg_ofNat_toInt hc]
  omega
theorem w_shl {a : Nat} (h : a < 2 ^ 48) : lN a <<< lN 8 = lN (2 ^ 8 * a) := by
  apply Int64.toBitVec_inj.mp
  apply BitVec.eq_of_toNat_eq
  show ((lN a).toBitVec <<< ((lN 8).toBitVec.smod 64)).toNat = (BitVec.ofNat 64 (2 ^ 8 * a)).toNat
  rw [show (lN 8).toBitVec.smod 64 = 8#64 by decide]
  show (BitVec.ofNat 64 a <<< (8#64).toNat).toNat = _
  rw [show (8#64 : BitVec 64).toNat = 8 from rfl, BitVec.toNat_shiftLeft, BitVec.toNat_ofNat, BitVec.toNat_ofNat, Nat.shiftLeft_eq, Nat.mod_eq_of_lt (show a < 2 ^ 64 by omega), Nat.mul_comm]
theorem w_or {a x : Nat} (h : a < 2 ^ 48) (hx : x < 256) : lN (2 ^ 8 * a) ||| lN x = lN (256 * a + x) := by
  apply Int64.toBitVec_inj.mp
  apply BitVec.eq_of_toNat_eq
  show ((BitVec.ofNat 64 (2 ^ 8 * a)) ||| (BitVec.ofNat 64 x)).toNat = (BitVec.ofNat 64 (256 * a + x)).toNat
  rw [BitVec.toNat_or, BitVec.toNat_ofNat, BitVec.toNat_ofNat, BitVec.toNat_ofNat, Nat.mod_eq_of_lt (by omega), Nat.mod_eq_of_lt (by omega), Nat.mod_eq_of_lt (by omega)]
  rw [← Nat.two_pow_add_eq_or_of_lt (by omega)]
theorem w_8 : (Int32.toInt64 (8 : Int32) &&& 63 : Int64) = lN 8 := by decide
theorem w_cmp {x y : Int64} : lg_cmp x y = 0 ↔ x = y := by
  unfold lg_cmp
  by_cases c : x > y
  · rw [if_pos c]
    exact ⟨fun z => absurd z (by decide), fun z => by rw [z] at c; exact absurd c Int64.lt_irrefl⟩
  · rw [if_neg c]
    by_cases d : x = y
    · rw [if_pos d]
      exact ⟨fun _ => d, fun _ => rfl⟩
    · rw [if_neg d]
      exact ⟨fun z => absurd z (by decide), fun z => absurd z d⟩
/-- letters packed, the last one first -/
def pkR : List Nat → Nat
  | [] => 0
  | x :: l => 256 * pkR l + x
def pkW (l : List Nat) : Nat := pkR l.reverse
theorem pkR_inj : ∀ {l m : List Nat}, (∀ x, x ∈ l → isL x = true) → (∀ x, x ∈ m → isL x = true) → pkR l = pkR m → l = m
  | [], [], _, _, _ => rfl
  | [], y :: m, _, hm, h => by
    have := isL_I.mp (hm y List.mem_cons_self)
    have h : 0 = 256 * pkR m + y := h
    omega
  | x :: l, [], hl, _, h => by
    have := isL_I.mp (hl x List.mem_cons_self)
    have h : 256 * pkR l + x = 0 := h
    omega
  | x :: l, y :: m, hl, hm, h => by
    have h1 := isL_I.mp (hl x List.mem_cons_self)
    have h2 := isL_I.mp (hm y List.mem_cons_self)
    have h : 256 * pkR l + x = 256 * pkR m + y := h
    have e : x = y := by omega
    have e2 : pkR l = pkR m := by omega
    rw [e, pkR_inj (fun z q => hl z (List.mem_cons_of_mem _ q)) (fun z q => hm z (List.mem_cons_of_mem _ q)) e2]
theorem pkR_lt : ∀ {l : List Nat}, (∀ x, x ∈ l → isL x = true) → pkR l < 256 ^ l.length
  | [], _ => by decide
  | x :: l, h => by
    have h1 := isL_I.mp (h x List.mem_cons_self)
    have h2 := pkR_lt (l := l) (fun z q => h z (List.mem_cons_of_mem _ q))
    show 256 * pkR l + x < 256 ^ (l.length + 1)
    rw [Nat.pow_succ]
    omega
theorem ls_snoc (b : Nat → Nat) : ∀ (k p : Nat), ls b (k + 1) p = ls b k p ++ [b (p + k)] := by
  intro k
  induction k with
  | zero => intro p; rfl
  | succ k ih =>
    intro p
    show b p :: ls b (k + 1) (p + 1) = (b p :: ls b k (p + 1)) ++ [b (p + (k + 1))]
    rw [ih (p + 1), show p + 1 + k = p + (k + 1) by omega]
    rfl
theorem pkW_snoc (b : Nat → Nat) (k p : Nat) : pkW (ls b (k + 1) p) = 256 * pkW (ls b k p) + b (p + k) := by
  unfold pkW
  rw [ls_snoc, List.reverse_append]
  rfl
theorem ls_all {b : Nat → Nat} : ∀ (k p : Nat), (∀ i, i < k → isL (b (p + i)) = true) → ∀ x, x ∈ ls b k p → isL x = true := by
  intro k
  induction k with
  | zero => intro p h x hx; cases hx
  | succ k ih =>
    intro p h x hx
    rcases List.mem_cons.mp hx with e | e
    · rw [e]
      exact h 0 (by omega)
    · exact ih (p + 1) (fun i hi => by rw [show p + 1 + i = p + (i + 1) by omega]; exact h (i + 1) (by omega)) x e
theorem wds_ok : ∀ w, w < 28 → (∀ x, x ∈ WDS.getD w [] → isL x = true) ∧ 0 < (WDS.getD w []).length ∧ (WDS.getD w []).length < 8 := by decide +kernel
theorem pkW_lt {l : List Nat} (h : ∀ x, x ∈ l → isL x = true) (h8 : l.length < 8) : pkW l < 2 ^ 56 := by
  have g := pkR_lt (l := l.reverse) (fun x hx => h x (List.mem_reverse.mp hx))
  rw [List.length_reverse] at g
  have : 256 ^ l.length ≤ 256 ^ 7 := Nat.pow_le_pow_right (by decide) (by omega)
  exact Nat.lt_of_lt_of_le g this
theorem pkW_inj {l m : List Nat} (hl : ∀ x, x ∈ l → isL x = true) (hm : ∀ x, x ∈ m → isL x = true) (h : pkW l = pkW m) : l = m := List.reverse_inj.mp (pkR_inj (fun x hx => hl x (List.mem_reverse.mp hx)) (fun x hx => hm x (List.mem_reverse.mp hx)) h)
/-- a signed byte's looks -/
theorem sg_s {x : Nat} (h : x < 256) : (sg x = nI 32) ↔ isS x = true := by
  have : ∀ x, x < 256 → (sg x = nI 32 ↔ isS x = true) := by decide +kernel
  exact this x h
theorem sg_d {x : Nat} (h : x < 256) : (sg x < nI 48 ∧ isD x = false) ∨ (¬ sg x < nI 48 ∧ nI 57 < sg x ∧ isD x = false) ∨ (¬ sg x < nI 48 ∧ ¬ nI 57 < sg x ∧ isD x = true) := by
  have : ∀ x, x < 256 → (sg x < nI 48 ∧ isD x = false) ∨ (¬ sg x < nI 48 ∧ nI 57 < sg x ∧ isD x = false) ∨ (¬ sg x < nI 48 ∧ ¬ nI 57 < sg x ∧ isD x = true) := by decide +kernel
  exact this x h
theorem sg_l {x : Nat} (h : x < 256) : (sg x < nI 97 ∧ isL x = false) ∨ (¬ sg x < nI 97 ∧ nI 122 < sg x ∧ isL x = false) ∨ (¬ sg x < nI 97 ∧ ¬ nI 122 < sg x ∧ isL x = true) := by
  have : ∀ x, x < 256 → (sg x < nI 97 ∧ isL x = false) ∨ (¬ sg x < nI 97 ∧ nI 122 < sg x ∧ isL x = false) ∨ (¬ sg x < nI 97 ∧ ¬ nI 122 < sg x ∧ isL x = true) := by decide +kernel
  exact this x h
theorem sg_p {x : Nat} (h : x < 128) : sg x = nI x := by
  unfold sg
  rw [if_pos h]
def SN (a j : Nat) : Prop := a = 1000 ∧ j = 14
/-- the reference reads at r, text t; what has been parsed -/
def RD (M : QM) (b : Nat → Nat) (n t r : Nat) (s : PZ) : Prop := TP2 M n b ∧ q_i M 1000 17 = nI t ∧ q_i M 1000 14 = nI r ∧ r ≤ n ∧ sk b n r = z_p s ∧ q_i M 1000 15 = nI 0 ∧ q_i M 1000 18 = nI (z_k s) ∧ q_a M 1000 7 t = nI (z_z s) ∧ ∀ j, j < z_z s → q_a M 1000 6 (400 * t + j) = z_2 (z_S s j)
section SEE
variable {M : QM} {b : Nat → Nat} {n t r : Nat} {s : PZ}
theorem TP2.keptN {N : QM} {S : Nat → Nat → Prop} (T : TP2 M n b) (k : kp S M N) (h3 : ¬ S 1000 3) (h4 : ¬ S 1000 4) : TP2 N n b := ⟨(k.i h4).trans T.1, fun i hi => (k.a h3).trans (T.2 i hi)⟩
theorem RD.on {N : QM} (R : RD M b n t r s) (k : kp SN M N) {r2 p2 : Nat} (e : q_i N 1000 14 = nI r2) (h : r2 ≤ n) (h2 : sk b n r2 = p2) : RD N b n t r2 (p2, z_k s, z_z s, z_S s) := by
  obtain ⟨h1, h2', h3, h4, h5, h6, h7, h8, h9⟩ := R
  exact ⟨h1.keptN k (fun z => by cases z.2) (fun z => by cases z.2), (k.i (fun z => by cases z.2)).trans h2', e, h, h2, (k.i (fun z => by cases z.2)).trans h6, (k.i (fun z => by cases z.2)).trans h7, (k.a (fun z => by cases z.2)).trans h8, fun j hj => (k.a (fun z => by cases z.2)).trans (h9 j hj)⟩
theorem sX12_isDigit (T : TP2 M n b) (ok : tp_ok n b) {p : Nat} (hp : p ≤ n) : fX12_isDigit M (nI p) = some (nI (if p < n ∧ isD (b p) = true then 1 else 0), M) := by
  have hn := ok.1
  unfold fX12_isDigit
  rw [T.1]
  by_cases c : p < n
  · have e3 := T.2 p c
    rcases sg_d (ok.2 p c) with ⟨g1, g2⟩ | ⟨g1, g3, g2⟩ | ⟨g1, g3, g2⟩
    · simp (disch := omega) only [y_lit, y_lt_T, y_lt_F, y_le_T, y_le_F, y_eq_T, y_eq_F, y_in_T, y_cl, ↓reduceIte, y_bs, y_bvs, y_os, y_on, y_t, ne_eq, not_true_eq_false, not_false_eq_true, pk_mul, nI_add, e3, g1, g2, c, reduceCtorEq, and_false]
    · simp (disch := omega) only [y_lit, y_lt_T, y_lt_F, y_le_T, y_le_F, y_eq_T, y_eq_F, y_in_T, y_cl, ↓reduceIte, y_bs, y_bvs, y_os, y_on, y_t, ne_eq, not_true_eq_false, not_false_eq_true, pk_mul, nI_add, e3, g1, g2, g3, c, reduceCtorEq, and_false]
    · simp (disch := omega) only [y_lit, y_lt_T, y_lt_F, y_le_T, y_le_F, y_eq_T, y_eq_F, y_in_T, y_cl, ↓reduceIte, y_bs, y_bvs, y_os, y_on, y_t, ne_eq, not_true_eq_false, not_false_eq_true, pk_mul, nI_add, e3, g1, g2, g3, c, reduceCtorEq, and_true]
  · simp (disch := omega) only [y_lit, y_lt_T, y_lt_F, y_le_T, y_le_F, y_eq_T, y_eq_F, y_in_T, y_cl, ↓reduceIte, y_bs, y_bvs, y_os, y_on, y_t, ne_eq, not_true_eq_false, not_false_eq_true, pk_mul, nI_add, c, false_and]
theorem sX12_isLetter (T : TP2 M n b) (ok : tp_ok n b) {p : Nat} (hp : p ≤ n) : fX12_isLetter M (nI p) = some (nI (if p < n ∧ isL (b p) = true then 1 else 0), M) := by
  have hn := ok.1
  unfold fX12_isLetter
  rw [T.1]
  by_cases c : p < n
  · have e3 := T.2 p c
    rcases sg_l (ok.2 p c) with ⟨g1, g2⟩ | ⟨g1, g3, g2⟩ | ⟨g1, g3, g2⟩
    · simp (disch := omega) only [y_lit, y_lt_T, y_lt_F, y_le_T, y_le_F, y_eq_T, y_eq_F, y_in_T, y_cl, ↓reduceIte, y_bs, y_bvs, y_os, y_on, y_t, ne_eq, not_true_eq_false, not_false_eq_true, pk_mul, nI_add, e3, g1, g2, c, reduceCtorEq, and_false]
    · simp (disch := omega) only [y_lit, y_lt_T, y_lt_F, y_le_T, y_le_F, y_eq_T, y_eq_F, y_in_T, y_cl, ↓reduceIte, y_bs, y_bvs, y_os, y_on, y_t, ne_eq, not_true_eq_false, not_false_eq_true, pk_mul, nI_add, e3, g1, g2, g3, c, reduceCtorEq, and_false]
    · simp (disch := omega) only [y_lit, y_lt_T, y_lt_F, y_le_T, y_le_F, y_eq_T, y_eq_F, y_in_T, y_cl, ↓reduceIte, y_bs, y_bvs, y_os, y_on, y_t, ne_eq, not_true_eq_false, not_false_eq_true, pk_mul, nI_add, e3, g1, g2, g3, c, reduceCtorEq, and_true]
  · simp (disch := omega) only [y_lit, y_lt_T, y_lt_F, y_le_T, y_le_F, y_eq_T, y_eq_F, y_in_T, y_cl, ↓reduceIte, y_bs, y_bvs, y_os, y_on, y_t, ne_eq, not_true_eq_false, not_false_eq_true, pk_mul, nI_add, c, false_and]
theorem sX12_see_b38 (T : TP2 M n b) (ok : tp_ok n b) (h : r ≤ n) (e : q_i M 1000 14 = nI r) : fX12_see_b38 M = some (chI b n r, M) := by
  have hn := ok.1
  unfold fX12_see_b38 chI
  rw [T.1, e]
  by_cases c : r < n
  · have e3 := T.2 r c
    rw [if_pos c]
    simp (disch := omega) only [y_lit, y_lt_T, y_lt_F, y_le_T, y_le_F, y_eq_T, y_eq_F, y_in_T, y_cl, ↓reduceIte, y_bs, y_bvs, y_os, y_on, y_t, ne_eq, not_true_eq_false, not_false_eq_true, pk_mul, nI_add, e3, sg_and (ok.2 r c)]
  · rw [if_neg c]
    simp (disch := omega) only [y_lit, y_lt_T, y_lt_F, y_le_T, y_le_F, y_eq_T, y_eq_F, y_in_T, y_cl, ↓reduceIte, y_bs, y_bvs, y_os, y_on, y_t, ne_eq, not_true_eq_false, not_false_eq_true, pk_mul, nI_add]
theorem sX12_see_b0 (ok : tp_ok n b) : ∀ (d r f : Nat) (M : QM), r + d = n → d < f → RD M b n t r s → ∃ N, fX12_see_b0 f M = some (chI b n (z_p s), N) ∧ RD N b n t (z_p s) s ∧ kp SN M N := by
  have hn := ok.1
  intro d
  induction d with
  | zero =>
    intro r f M h1 h2 R
    obtain ⟨f, rfl⟩ : ∃ p, f = p + 1 := ⟨f - 1, by omega⟩
    have e : r = n := by omega
    subst e
    have ep : z_p s = r := by
      rw [← R.2.2.2.2.1]
      exact rn_e (Nat.le_refl _)
    refine ⟨M, ?_, by rw [ep]; exact R, kp.rf⟩
    rw [fX12_see_b0, R.1.1, R.2.2.1]
    simp (disch := omega) only [y_lit, y_lt_T, y_lt_F, y_le_T, y_le_F, y_eq_T, y_eq_F, y_in_T, y_cl, ↓reduceIte, y_bs, y_bvs, y_os, y_on, y_t, ne_eq, not_true_eq_false, not_false_eq_true, pk_mul, nI_add]
    rw [sX12_see_b38 R.1 ok (Nat.le_refl _) R.2.2.1, ep]
  | succ d ih =>
    intro r f M h1 h2 R
    obtain ⟨f, rfl⟩ : ∃ p, f = p + 1 := ⟨f - 1, by omega⟩
    have e3 := R.1.2 r (by omega)
    have e14 := R.2.2.1
    have e4 := R.1.1
    rw [fX12_see_b0]
    cases c : isS (b r) with
    | true =>
      have g := (sg_s (ok.2 r (by omega))).mpr c
      have k : kp SN M (p_i M 1000 14 (nI (r + 1))) := kp_i ⟨rfl, rfl⟩
      have R2 := R.on k (r2 := r + 1) (p2 := z_p s) (by simp only [y_ii, y_ia, y_il, y_ir, y_ai, y_aa, y_al, y_ar, y_li, y_la, y_ll, y_lr, y_ri, y_ra, y_rl, y_rr, and_true, true_and, and_false, false_and, and_self, if_true, if_false, Nat.reduceEqDiff, reduceCtorEq, or_false, false_or, or_true, true_or]) (by omega) (by rw [← R.2.2.2.2.1]; exact (rn_y (by omega) c).symm)
      obtain ⟨N, a1, a2, a3⟩ := ih (r + 1) f _ (by omega) (by omega) R2
      refine ⟨N, ?_, a2, k.tr a3⟩
      simp (disch := omega) only [y_lit, y_lt_T, y_lt_F, y_le_T, y_le_F, y_eq_T, y_eq_F, y_in_T, y_cl, ↓reduceIte, y_bs, y_bvs, y_os, y_on, y_t, ne_eq, not_true_eq_false, not_false_eq_true, pk_mul, nI_add, e3, e14, e4, g]
      exact a1
    | false =>
      have g : ¬ sg (b r) = nI 32 := fun z => by rw [(sg_s (ok.2 r (by omega))).mp z] at c; cases c
      have ep : z_p s = r := by
        rw [← R.2.2.2.2.1]
        exact rn_n c
      refine ⟨M, ?_, by rw [ep]; exact R, kp.rf⟩
      simp (disch := omega) only [y_lit, y_lt_T, y_lt_F, y_le_T, y_le_F, y_eq_T, y_eq_F, y_in_T, y_cl, ↓reduceIte, y_bs, y_bvs, y_os, y_on, y_t, ne_eq, not_true_eq_false, not_false_eq_true, pk_mul, nI_add, e3, e14, e4, g]
      rw [sX12_see_b38 R.1 ok (by omega) R.2.2.1, ep]
theorem sX12_see (R : RD M b n t r s) (ok : tp_ok n b) : ∃ N, fX12_see M = some (chI b n (z_p s), N) ∧ RD N b n t (z_p s) s ∧ kp SN M N := by
  have hn := ok.1
  have hr := R.2.2.2.1
  exact sX12_see_b0 ok (n - r) r q_F M (by omega) (q_Fn (by omega)) R
/-- having seen, it sees again -/
theorem sX12_see2 (R : RD M b n t (z_p s) s) (ok : tp_ok n b) : fX12_see M = some (chI b n (z_p s), M) := by
  have hn := ok.1
  have hr := R.2.2.2.1
  have e14 := R.2.2.1
  have e4 := R.1.1
  unfold fX12_see
  obtain ⟨f, hf⟩ : ∃ f, q_F = f + 1 := ⟨99999, rfl⟩
  rw [hf, fX12_see_b0]
  by_cases c : z_p s < n
  · have e3 := R.1.2 _ c
    have g : ¬ sg (b (z_p s)) = nI 32 := fun z => by
      have g2 := (sg_s (ok.2 _ c)).mp z
      have g3 := R.2.2.2.2.1
      have g4 := rn_lt (P := isS) c g2
      have g3 : rn isS b n (z_p s) = z_p s := g3
      omega
    simp (disch := omega) only [y_lit, y_lt_T, y_lt_F, y_le_T, y_le_F, y_eq_T, y_eq_F, y_in_T, y_cl, ↓reduceIte, y_bs, y_bvs, y_os, y_on, y_t, ne_eq, not_true_eq_false, not_false_eq_true, pk_mul, nI_add, e3, e14, e4, g]
    exact sX12_see_b38 R.1 ok hr e14
  · simp (disch := omega) only [y_lit, y_lt_T, y_lt_F, y_le_T, y_le_F, y_eq_T, y_eq_F, y_in_T, y_cl, ↓reduceIte, y_bs, y_bvs, y_os, y_on, y_t, ne_eq, not_true_eq_false, not_false_eq_true, pk_mul, nI_add, e14, e4]
    exact sX12_see_b38 R.1 ok hr e14
theorem sX12_isWord_b10 (T : TP2 M n b) (ok : tp_ok n b) {p : Nat} (e14 : q_i M 1000 14 = nI p) (hp : p ≤ n) {x1 : Int64} : ∀ (d c f : Nat) (x3 : Int64), p + c + d = n → d < f → (∀ i, i < c → isL (b (p + i)) = true) → we b n (p + c) = we b n p → (c ≤ 7 → x3 = lN (pkW (ls b c p))) → fX12_isWord_b10 f M x1 x3 (nI c) = some (nI (if 0 < we b n p - p ∧ we b n p - p < 8 ∧ lN (pkW (wl b n p)) = x1 then 1 else 0), M) := by
  have hn := ok.1
  have fin : ∀ (c : Nat) (x3 : Int64), p + c ≤ n → we b n p = p + c → (c ≤ 7 → x3 = lN (pkW (ls b c p))) → fX12_isWord_b56 M x1 x3 (nI c) = some (nI (if 0 < we b n p - p ∧ we b n p - p < 8 ∧ lN (pkW (wl b n p)) = x1 then 1 else 0), M) := fun c x3 hc e h3 => by
    unfold fX12_isWord_b56 wl
    rw [e, show p + c - p = c by omega]
    by_cases c0 : c = 0
    · rw [if_neg (show ¬ (0 < c ∧ c < 8 ∧ lN (pkW (ls b c p)) = x1) from fun z => by have := z.1; omega)]
      simp (disch := omega) only [y_lit, y_lt_T, y_lt_F, y_le_T, y_le_F, y_eq_T, y_eq_F, y_in_T, y_cl, ↓reduceIte, y_bs, y_bvs, y_os, y_on, y_t, ne_eq, not_true_eq_false, not_false_eq_true, pk_mul, nI_add]
    · by_cases c8 : 8 ≤ c
      · rw [if_neg (show ¬ (0 < c ∧ c < 8 ∧ lN (pkW (ls b c p)) = x1) from fun z => by have := z.2.1; omega)]
        simp (disch := omega) only [y_lit, y_lt_T, y_lt_F, y_le_T, y_le_F, y_eq_T, y_eq_F, y_in_T, y_cl, ↓reduceIte, y_bs, y_bvs, y_os, y_on, y_t, ne_eq, not_true_eq_false, not_false_eq_true, pk_mul, nI_add]
      · have h3 := h3 (by omega)
        rw [if_neg (show ¬ nI c ≤ (0 : Int32) from (show ¬ nI c ≤ nI 0 from nI_ge (by omega) (by omega))), if_neg (show ¬ (8 : Int32) ≤ nI c from (show ¬ nI 8 ≤ nI c from nI_ge (by omega) (by omega))), h3]
        by_cases g : lN (pkW (ls b c p)) = x1
        · rw [if_neg (fun z => z (w_cmp.mpr g)), if_pos ⟨by omega, by omega, g⟩]
          rfl
        · rw [if_pos (fun z => g (w_cmp.mp z)), if_neg (fun z => g z.2.2)]
          rfl
  intro d
  induction d with
  | zero =>
    intro c f x3 h1 h2 h4 h5 h3
    obtain ⟨f, rfl⟩ : ∃ p, f = p + 1 := ⟨f - 1, by omega⟩
    rw [fX12_isWord_b10, e14, nI_add, sX12_isLetter T ok (by omega), q_b_s, if_neg (show ¬ (p + c < n ∧ isL (b (p + c)) = true) from fun z => by have := z.1; omega), if_pos (by decide)]
    exact fin c x3 (by omega) (by rw [← h5]; exact rn_e (by omega)) h3
  | succ d ih =>
    intro c f x3 h1 h2 h4 h5 h3
    obtain ⟨f, rfl⟩ : ∃ p, f = p + 1 := ⟨f - 1, by omega⟩
    rw [fX12_isWord_b10, e14, nI_add, sX12_isLetter T ok (by omega), q_b_s]
    cases cl : isL (b (p + c)) with
    | false =>
      rw [if_neg (show ¬ (p + c < n ∧ false = true) from fun z => by cases z.2), if_pos (by decide)]
      exact fin c x3 (by omega) (by rw [← h5]; exact rn_n cl) h3
    | true =>
      rw [if_pos (show p + c < n ∧ true = true from ⟨by omega, rfl⟩), if_neg (by decide)]
      have nxt : ∀ x4, (c + 1 ≤ 7 → x4 = lN (pkW (ls b (c + 1) p))) → fX12_isWord_b50 (fun M x1 x3 x5 => fX12_isWord_b10 f M x1 x3 x5) M x1 x4 (nI c) = some (nI (if 0 < we b n p - p ∧ we b n p - p < 8 ∧ lN (pkW (wl b n p)) = x1 then 1 else 0), M) := fun x4 h6 => by
        unfold fX12_isWord_b50
        show fX12_isWord_b10 f M x1 x4 (nI c + nI 1) = _
        rw [nI_add]
        refine ih (c + 1) f x4 (by omega) (by omega) (fun i hi => ?_) ?_ h6
        · by_cases q : i = c
          · rw [q]
            exact cl
          · exact h4 i (by omega)
        · rw [← h5]
          exact (rn_y (P := isL) (by omega) cl).symm
      by_cases c8 : 8 ≤ c
      · rw [if_pos (show (8 : Int32) ≤ nI c from nI_le (a := 8) c8 (by omega))]
        exact nxt x3 (fun z => by omega)
      · have e3 := T.2 (p + c) (by omega)
        have hb := isL_I.mp cl
        rw [sg_p (by omega)] at e3
        rw [if_neg (show ¬ (8 : Int32) ≤ nI c from (show ¬ nI 8 ≤ nI c from nI_ge (by omega) (by omega))), e14, nI_add, if_pos (q_inN (show p + c < 400 by omega) (by decide)), nI_cl (by omega), e3, q_t]
        refine nxt _ (fun z => ?_)
        have hl := pkR_lt (l := (ls b c p).reverse) (fun x hx => ls_all c p h4 x (List.mem_reverse.mp hx))
        rw [List.length_reverse, ls_len] at hl
        have h6 : 256 ^ c ≤ 256 ^ 6 := Nat.pow_le_pow_right (by decide) (by omega)
        have hl : pkW (ls b c p) < 2 ^ 48 := Nat.lt_of_lt_of_le hl h6
        rw [h3 (by omega), w_8, w_shl hl, w_i64 (by omega), w_or hl (by omega), pkW_snoc]
theorem sX12_isWord2 (R : RD M b n t (z_p s) s) (ok : tp_ok n b) {w : Nat} (hw : w < 28) {x : Int64} (hx : x = lN (pkW (WDS.getD w []))) : fX12_isWord M x = some (nI (if p_kd b n s = w then 1 else 0), M) := by
  have hn := ok.1
  have hr := R.2.2.2.1
  unfold fX12_isWord
  rw [sX12_see2 R ok, q_b_s]
  have e := sX12_isWord_b10 R.1 ok R.2.2.1 hr (x1 := x) (n - z_p s) 0 q_F (0 : Int64) (by omega) (q_Fn (by omega)) (fun i hi => by omega) rfl (fun _ => rfl)
  rw [show fX12_isWord_b10 q_F M x (0 : Int64) (0 : Int32) = _ from e]
  have g := (rn_le (P := isL) (b := b) hr)
  have iff : (0 < we b n (z_p s) - z_p s ∧ we b n (z_p s) - z_p s < 8 ∧ lN (pkW (wl b n (z_p s))) = x) ↔ p_kd b n s = w := by
    have kw := kd_w (b := b) (n := n) (p := z_p s) hw
    have ww := wds_ok w hw
    refine Iff.trans ?_ kw.symm
    refine ⟨fun h => ?_, fun h => ?_⟩
    · have hl : ∀ x, x ∈ wl b n (z_p s) → isL x = true := ls_all _ _ (fun i hi => rn_in hr (by omega) (by unfold we at hi; omega))
      have len : (wl b n (z_p s)).length = we b n (z_p s) - z_p s := ls_len _ _
      have l1 := pkW_lt hl (by omega)
      have l2 := pkW_lt ww.1 ww.2.2
      have e1 := h.2.2
      rw [hx] at e1
      have e2 := (w_eq (Nat.lt_trans l1 (by decide)) (Nat.lt_trans l2 (by decide))).mp e1
      have hlt : z_p s < n := by
        have h0 := h.1
        unfold we at h0
        omega
      refine ⟨hlt, ?_, pkW_inj hl ww.1 e2⟩
      exact rn_in hr (Nat.le_refl _) (by have h0 := h.1; unfold we at h0; omega)
    · have len : (wl b n (z_p s)).length = we b n (z_p s) - z_p s := ls_len _ _
      rw [h.2.2] at len
      exact ⟨by omega, by omega, by rw [h.2.2, hx]⟩
  by_cases c : p_kd b n s = w
  · rw [if_pos c, if_pos (iff.mpr c)]
  · rw [if_neg c, if_neg (fun z => c (iff.mp z))]
theorem sX12_isWord (R : RD M b n t r s) (ok : tp_ok n b) {w : Nat} (hw : w < 28) {x : Int64} (hx : x = lN (pkW (WDS.getD w []))) : ∃ N, fX12_isWord M x = some (nI (if p_kd b n s = w then 1 else 0), N) ∧ RD N b n t (z_p s) s ∧ kp SN M N := by
  obtain ⟨N, e, R2, k⟩ := sX12_see R ok
  refine ⟨N, ?_, R2, k⟩
  rw [← sX12_isWord2 R2 ok hw hx]
  unfold fX12_isWord
  rw [e, q_b_s, sX12_see2 R2 ok, q_b_s]
end SEE
