/-! the class's tokens: words, and all of them -/
def wdB : List (List Nat) → List Int32
  | [] => []
  | w :: ws => w.map nI ++ (32 : Int32) :: wdB ws
theorem q_bytes_w : q_bytes = wdB WDS := by decide +kernel
theorem WDS_l : ∀ w ∈ WDS, ∀ c ∈ w, 97 ≤ c ∧ c ≤ 122 := by decide +kernel
/-- the tokens -/
def pl (b : Nat → Nat) (n : Nat) : Nat → Nat
  | 0 => sk b n 0
  | j + 1 => nx b n (pl b n j)
def TR (M : QM) (b : Nat → Nat) (n j : Nat) : Prop := ∀ i, i < j → q_a M 3 0 i = nI (kd b n (pl b n i)) ∧ q_a M 3 1 i = nI (pl b n i) ∧ q_a M 3 2 i = nb b n (pl b n i)
def TK (M : QM) (b : Nat → Nat) (n : Nat) : Prop := ∃ J, J ≤ 400 ∧ pl b n J = n ∧ (∀ j, j < J → pl b n j < n) ∧ q_i M 3 3 = nI (J + 1) ∧ TR M b n (J + 1)
section TAKE
variable {M : QM} {b : Nat → Nat} {n p : Nat}
theorem wo_skip {x1 x2 : Int32} {m w : Nat} (hm : x2 - x1 = nI m) (hm2 : m < 1000) {cs : List Int32} : ∀ W : List Nat, (∀ c ∈ W, 97 ≤ c ∧ c ≤ 122) → fX9_wordOf_l x1 x2 (W.map nI ++ (32 : Int32) :: cs) M (nI w) (-nI 1) = fX9_wordOf_l x1 x2 cs M (nI (w + 1)) (nI 0) := by
  intro W
  induction W with
  | nil =>
    intro _
    show fX9_wordOf_l x1 x2 ((32 : Int32) :: cs) M (nI w) (-nI 1) = _
    rw [fX9_wordOf_l, hm]
    simp (disch := omega) only [y_lit, y_lt_T, y_lt_F, y_le_T, y_le_F, y_eq_T, y_eq_F, y_in_T, y_cl, ↓reduceIte, y_bs, y_bvs, y_os, y_on, y_t, ne_eq, not_true_eq_false, not_false_eq_true, pk_mul, nI_add, m1_eqF]
  | cons c W ih =>
    intro h
    have h1 := h c (List.mem_cons_self ..)
    show fX9_wordOf_l x1 x2 (nI c :: (W.map nI ++ (32 : Int32) :: cs)) M (nI w) (-nI 1) = _
    rw [fX9_wordOf_l]
    simp (disch := omega) only [y_lit, y_lt_T, y_lt_F, y_le_T, y_le_F, y_eq_T, y_eq_F, y_in_T, y_cl, ↓reduceIte, y_bs, y_bvs, y_os, y_on, y_t, ne_eq, not_true_eq_false, not_false_eq_true, pk_mul, nI_add, m1_lt]
    exact ih (fun d hd => h d (List.mem_cons_of_mem _ hd))
theorem wo_word (T : TP1 M n b) (ok : tp_ok n b) {q m : Nat} (hq : p + m = q) (hqn : q ≤ n) (hend : q < n → isL (b q) = false) {w : Nat} {cs : List Int32} : ∀ (W : List Nat) (a : Nat), a ≤ m → (∀ c ∈ W, 97 ≤ c ∧ c ≤ 122) →
    fX9_wordOf_l (nI p) (nI q) (W.map nI ++ (32 : Int32) :: cs) M (nI w) (nI a) = if ls b (m - a) (p + a) = W then some (nI w, M) else fX9_wordOf_l (nI p) (nI q) cs M (nI (w + 1)) (nI 0) := by
  have hn := ok.1
  have hm : nI q - nI p = nI m := by
    rw [pk_sub (by omega), show q - p = m by omega]
  intro W
  induction W with
  | nil =>
    intro a ha _
    show fX9_wordOf_l (nI p) (nI q) ((32 : Int32) :: cs) M (nI w) (nI a) = _
    rw [fX9_wordOf_l, hm]
    by_cases c : a = m
    · subst c
      rw [Nat.sub_self]
      simp (disch := omega) only [y_lit, y_lt_T, y_lt_F, y_le_T, y_le_F, y_eq_T, y_eq_F, y_in_T, y_cl, ↓reduceIte, y_bs, y_bvs, y_os, y_on, y_t, ne_eq, not_true_eq_false, not_false_eq_true, pk_mul, nI_add, ls]
    · obtain ⟨k, hk⟩ : ∃ k, m - a = k + 1 := ⟨m - a - 1, by omega⟩
      rw [hk]
      simp (disch := omega) only [y_lit, y_lt_T, y_lt_F, y_le_T, y_le_F, y_eq_T, y_eq_F, y_in_T, y_cl, ↓reduceIte, y_bs, y_bvs, y_os, y_on, y_t, ne_eq, not_true_eq_false, not_false_eq_true, pk_mul, nI_add, ls, reduceCtorEq, if_false]
  | cons c W ih =>
    intro a ha h
    have h1 := h c (List.mem_cons_self ..)
    have h2 : ∀ d ∈ W, 97 ≤ d ∧ d ≤ 122 := fun d hd => h d (List.mem_cons_of_mem _ hd)
    show fX9_wordOf_l (nI p) (nI q) (nI c :: (W.map nI ++ (32 : Int32) :: cs)) M (nI w) (nI a) = _
    rw [fX9_wordOf_l]
    simp (disch := omega) only [y_lit, y_lt_T, y_lt_F, y_le_T, y_le_F, y_eq_T, y_eq_F, y_in_T, y_cl, ↓reduceIte, y_bs, y_bvs, y_os, y_on, y_t, ne_eq, not_true_eq_false, not_false_eq_true, pk_mul, nI_add]
    rw [sX8_byteAt T hn (by omega), q_b_s]
    by_cases e : a = m
    · have ne : ¬ chI b n (p + a) = nI c := fun z => by
        unfold chI at z
        by_cases q2 : p + a < n
        · rw [if_pos q2] at z
          have hb := ok.2 _ q2
          have z := (nI_eq (by omega) (by omega)).mp z
          have := hend (by omega)
          rw [show q = p + a by omega, isL_I.mpr (by omega)] at this
          cases this
        · rw [if_neg q2, m1_eqF (by omega)] at z
          exact z
      rw [if_pos ne, show m - a = 0 by omega, ls, if_neg (by intro z; cases z)]
      exact wo_skip hm (by omega) W h2
    · obtain ⟨k, hk⟩ : ∃ k, m - a = k + 1 := ⟨m - a - 1, by omega⟩
      have hb := ok.2 (p + a) (by omega)
      have nx := ih (a + 1) (by omega) h2
      rw [show m - (a + 1) = k by omega, show p + (a + 1) = p + a + 1 by omega] at nx
      rw [hk, ls, chI, if_pos (show p + a < n by omega)]
      by_cases e2 : b (p + a) = c
      · rw [if_neg (show ¬ ¬ nI (b (p + a)) = nI c from not_not_intro (by rw [e2]))]
        refine nx.trans ?_
        rw [e2]
        by_cases e3 : ls b k (p + a + 1) = W
        · rw [if_pos e3, if_pos (by rw [e3])]
        · rw [if_neg e3, if_neg (fun z => e3 (List.cons.inj z).2)]
      · rw [if_pos (show ¬ nI (b (p + a)) = nI c from fun z => e2 ((nI_eq (by omega) (by omega)).mp z)), if_neg (fun z => e2 (List.cons.inj z).1)]
        exact wo_skip hm (by omega) W h2
theorem wo_all (T : TP1 M n b) (ok : tp_ok n b) {q m : Nat} (hq : p + m = q) (hqn : q ≤ n) (hend : q < n → isL (b q) = false) : ∀ (ws : List (List Nat)) (w : Nat), (∀ x ∈ ws, ∀ c ∈ x, 97 ≤ c ∧ c ≤ 122) → fX9_wordOf_l (nI p) (nI q) (wdB ws) M (nI w) (nI 0) = some (nI (wi (ls b m p) ws w), M) := by
  intro ws
  induction ws with
  | nil => intro w _; rfl
  | cons x xs ih =>
    intro w h
    have f := wo_word T ok hq hqn hend (w := w) (cs := wdB xs) x 0 (Nat.zero_le _) (h x (List.mem_cons_self ..))
    rw [show m - 0 = m by omega, show p + 0 = p by omega] at f
    refine f.trans ?_
    unfold wi
    by_cases c : ls b m p = x
    · rw [if_pos c, if_pos c]
    · rw [if_neg c, if_neg c]
      exact ih (w + 1) (fun y hy => h y (List.mem_cons_of_mem _ hy))
theorem sX9_wordOf (T : TP1 M n b) (ok : tp_ok n b) (hp : p ≤ n) : fX9_wordOf M (nI p) (nI (we b n p)) = some (nI (wi (wl b n p) WDS 0), M) := by
  obtain ⟨h1, h2⟩ := rn_le (P := isL) (b := b) hp
  unfold fX9_wordOf
  rw [q_bytes_w]
  exact wo_all T ok (m := we b n p - p) (q := we b n p) (by unfold we; omega) h2 (fun z => rn_at hp z) WDS 0 WDS_l
def S3 (a _j : Nat) : Prop := a = 3
theorem TP1.kept {N : QM} {S : Nat → Nat → Prop} (T : TP1 M n b) (k : kp S M N) (hS : ∀ j, ¬ S 1 j) : TP1 N n b := ⟨(k.i (hS _)).trans T.1, fun i hi => (k.a (hS _)).trans (T.2 i hi)⟩
theorem sX9_add {j k pp : Nat} {v : Int32} (h : q_i M 3 3 = nI j) (hj : j ≤ 400) (R : TR M b n j) (ek : k = kd b n (pl b n j)) (ep : pp = pl b n j) (ev : v = nb b n (pl b n j)) : ∃ N, fX9_add M (nI k) (nI pp) v = some N ∧ q_i N 3 3 = nI (j + 1) ∧ TR N b n (j + 1) ∧ kp S3 M N := by
  have s3 : ∀ {j}, S3 3 j := rfl
  refine ⟨p_i (p_a (p_a (p_a M 3 0 j (nI k)) 3 1 j (nI pp)) 3 2 j v) 3 3 (nI (j + 1)), ?_, ?_, fun i hi => ?_, (((kp_a s3).tr (kp_a s3)).tr (kp_a s3)).tr (kp_i s3)⟩
  · unfold fX9_add
    simp (disch := omega) only [y_lit, y_lt_T, y_lt_F, y_le_T, y_le_F, y_eq_T, y_eq_F, y_in_T, y_cl, ↓reduceIte, y_bs, y_bvs, y_os, y_on, y_t, ne_eq, not_true_eq_false, not_false_eq_true, pk_mul, nI_add, h, y_ii, y_ia, y_il, y_ir, y_ai, y_aa, y_al, y_ar, y_li, y_la, y_ll, y_lr, y_ri, y_ra, y_rl, y_rr, and_true, true_and, and_false, false_and, and_self, if_true, if_false, Nat.reduceEqDiff, reduceCtorEq, or_false, false_or, or_true, true_or]
  · simp only [y_ii, y_ia, y_il, y_ir, y_ai, y_aa, y_al, y_ar, y_li, y_la, y_ll, y_lr, y_ri, y_ra, y_rl, y_rr, and_true, true_and, and_false, false_and, and_self, if_true, if_false, Nat.reduceEqDiff, reduceCtorEq, or_false, false_or, or_true, true_or]
  · by_cases q : i = j
    · subst q
      simp only [y_ii, y_ia, y_il, y_ir, y_ai, y_aa, y_al, y_ar, y_li, y_la, y_ll, y_lr, y_ri, y_ra, y_rl, y_rr, and_true, true_and, and_false, false_and, and_self, if_true, if_false, Nat.reduceEqDiff, reduceCtorEq, or_false, false_or, or_true, true_or]
      exact ⟨by rw [ek], by rw [ep], ev⟩
    · simp only [y_ii, y_ia, y_il, y_ir, y_ai, y_aa, y_al, y_ar, y_li, y_la, y_ll, y_lr, y_ri, y_ra, y_rl, y_rr, and_true, true_and, and_false, false_and, and_self, if_true, if_false, Nat.reduceEqDiff, reduceCtorEq, or_false, false_or, or_true, true_or, q]
      exact R i (by omega)
/-- a token at p is told -/
theorem te_on (hp : p < n) (c1 : isL (b p) = false) (c2 : isD (b p) = false) : te b n p = p + (if kd b n p < 512 then 1 else 2) := by
  unfold te
  rw [if_neg (by rw [c1]; decide), if_neg (by rw [c2]; decide)]
  split <;> rfl
theorem sX9_take_b9 (ok : tp_ok n b) : ∀ (d r c j f : Nat) (M : QM), c + d = 400 → d < f → TP1 M n b → r ≤ n → c ≤ r ∨ n ≤ r → j ≤ c → sk b n r = pl b n j → (∀ i, i < j → pl b n i < n) → q_i M 3 3 = nI j → TR M b n j → qV (fX9_take_b9 f M (nI r) (nI c)) (fun N => TK N b n ∧ kp S3 M N) := by
  have hn := ok.1
  intro d r c j f M hd hf T hr hcr hj hsk hpl h3 R
  have fin : n ≤ r → qV (fX9_take_b157 M) (fun N => TK N b n ∧ kp S3 M N) := fun hnr => by
    have er : r = n := by omega
    have e1 : pl b n j = n := by
      rw [← hsk, er]
      exact rn_e (Nat.le_refl _)
    obtain ⟨N, f1, f2, f3, f4⟩ := sX9_add (k := 31) (pp := n) (v := nI 0) h3 (by omega) R (by rw [e1]; exact (kd_end.mpr (Nat.le_refl _)).symm) e1.symm (by rw [e1]; unfold nb; rw [if_pos (Nat.le_refl _)])
    refine ⟨N, ?_, ⟨j, by omega, e1, hpl, f2, f3⟩, f4⟩
    unfold fX9_take_b157
    rw [T.1]
    rw [show fX9_add M (31 : Int32) (nI n) (0 : Int32) = some N from f1, q_bv_s]
  induction d generalizing r c j f M with
  | zero =>
    obtain ⟨f, rfl⟩ : ∃ p, f = p + 1 := ⟨f - 1, by omega⟩
    have e : c = 400 := hd
    subst e
    obtain ⟨N, e, g⟩ := fin (by omega)
    refine ⟨N, ?_, g⟩
    rw [fX9_take_b9]
    simp (disch := omega) only [y_lit, y_lt_T, y_lt_F, y_le_T, y_le_F, y_eq_T, y_eq_F, y_in_T, y_cl, ↓reduceIte, y_bs, y_bvs, y_os, y_on, y_t, ne_eq, not_true_eq_false, not_false_eq_true, pk_mul, nI_add]
    exact e
  | succ d ih =>
    obtain ⟨f, rfl⟩ : ∃ p, f = p + 1 := ⟨f - 1, by omega⟩
    by_cases cr : n ≤ r
    · obtain ⟨N, e, g⟩ := fin cr
      refine ⟨N, ?_, g⟩
      rw [fX9_take_b9]
      simp (disch := omega) only [y_lit, y_lt_T, y_lt_F, y_le_T, y_le_F, y_eq_T, y_eq_F, y_in_T, y_cl, ↓reduceIte, y_bs, y_bvs, y_os, y_on, y_t, ne_eq, not_true_eq_false, not_false_eq_true, pk_mul, nI_add, T.1]
      exact e
    have hb := ok.2 r (by omega)
    have go : ∀ (N1 : QM) (r2 j2 : Nat), kp S3 M N1 → r < r2 → r2 ≤ n → j2 ≤ c + 1 → sk b n r2 = pl b n j2 → (∀ i, i < j2 → pl b n i < n) → q_i N1 3 3 = nI j2 → TR N1 b n j2 → qV (fX9_take_b9 f N1 (nI r2) (nI (c + 1))) (fun N => TK N b n ∧ kp S3 M N) := fun N1 r2 j2 k1 a1 a2 a3 a4 a5 a6 a7 => by
      have T1 := T.kept k1 (fun j z => by unfold S3 at z; omega)
      obtain ⟨N, e, g1, g2⟩ := ih r2 (c + 1) j2 f N1 (by omega) (by omega) T1 a2 (by omega) a3 a4 a5 a6 a7 (fun hnr => by
        have er : r2 = n := by omega
        have e1 : pl b n j2 = n := by
          rw [← a4, er]
          exact rn_e (Nat.le_refl _)
        obtain ⟨N, f1, f2, f3, f4⟩ := sX9_add (k := 31) (pp := n) (v := nI 0) a6 (by omega) a7 (by rw [e1]; exact (kd_end.mpr (Nat.le_refl _)).symm) e1.symm (by rw [e1]; unfold nb; rw [if_pos (Nat.le_refl _)])
        refine ⟨N, ?_, ⟨j2, by omega, e1, a5, f2, f3⟩, f4⟩
        unfold fX9_take_b157
        rw [T1.1]
        rw [show fX9_add N1 (31 : Int32) (nI n) (0 : Int32) = some N from f1, q_bv_s])
      exact ⟨N, e, g1, k1.tr g2⟩
    have tok : r = pl b n j → ∀ (N1 : QM) (r2 : Nat), kp S3 M N1 → r2 = te b n r → q_i N1 3 3 = nI (j + 1) → TR N1 b n (j + 1) → qV (fX9_take_b9 f N1 (nI r2) (nI (c + 1))) (fun N => TK N b n ∧ kp S3 M N) := fun er N1 r2 k1 e2 a6 a7 => by
      have tb := te_b (b := b) (n := n) (p := r) (by omega)
      refine go N1 r2 (j + 1) k1 (by omega) (by omega) (by omega) ?_ (fun i hi => ?_) a6 a7
      · rw [e2, er]
        rfl
      · by_cases q : i = j
        · subst q
          omega
        · exact hpl i (by omega)
    rw [fX9_take_b9]
    simp (disch := omega) only [y_lit, y_lt_T, y_lt_F, y_le_T, y_le_F, y_eq_T, y_eq_F, y_in_T, y_cl, ↓reduceIte, y_bs, y_bvs, y_os, y_on, y_t, ne_eq, not_true_eq_false, not_false_eq_true, pk_mul, nI_add, T.1]
    rw [sX8_byteAt T hn (by omega), q_b_s, chI, if_pos (show r < n by omega)]
    by_cases cs : b r = 32
    · simp (disch := omega) only [y_lit, y_lt_T, y_lt_F, y_le_T, y_le_F, y_eq_T, y_eq_F, y_in_T, y_cl, ↓reduceIte, y_bs, y_bvs, y_os, y_on, y_t, ne_eq, not_true_eq_false, not_false_eq_true, pk_mul, nI_add, fX9_take_b151]
      refine go M (r + 1) j kp.rf (by omega) (by omega) (by omega) ?_ hpl h3 R
      rw [← hsk]
      exact (rn_y (by omega) (isS_I.mpr cs)).symm
    have er : r = pl b n j := by
      rw [← hsk]
      exact (rn_n (Bool.eq_false_iff.mpr (fun z => cs (isS_I.mp z)))).symm
    simp (disch := omega) only [y_lit, y_lt_T, y_lt_F, y_le_T, y_le_F, y_eq_T, y_eq_F, y_in_T, y_cl, ↓reduceIte, y_bs, y_bvs, y_os, y_on, y_t, ne_eq, not_true_eq_false, not_false_eq_true, pk_mul, nI_add]
    rw [sX9_isLetter M hb, q_b_s]
    by_cases cl : isL (b r) = true
    · have we1 := sX9_wordEnd T ok (n - r) r q_F (by omega) (q_Fn (by omega))
      have ek : kd b n r = wi (wl b n r) WDS 0 := by
        unfold kd
        rw [if_neg cr, if_pos cl]
      have et : te b n r = we b n r := if_pos cl
      have enb : nb b n r = nI 0 := by
        unfold nb
        rw [if_neg cr, if_pos cl]
      obtain ⟨N1, f1, f2, f3, f4⟩ := sX9_add (k := kd b n r) (pp := r) (v := nI 0) h3 (by omega) R (by rw [er]) er (by rw [← er, enb])
      rw [if_pos cl]
      simp (disch := omega) only [y_lit, y_lt_T, y_lt_F, y_le_T, y_le_F, y_eq_T, y_eq_F, y_in_T, y_cl, ↓reduceIte, y_bs, y_bvs, y_os, y_on, y_t, ne_eq, not_true_eq_false, not_false_eq_true, pk_mul, nI_add]
      unfold fX9_wordEnd
      rw [we1, q_b_s, sX9_wordOf T ok (by omega), q_b_s, ← ek, f1, q_bv_s]
      simp (disch := omega) only [fX9_take_b151, y_lit, y_lt_T, y_lt_F, y_le_T, y_le_F, y_eq_T, y_eq_F, y_in_T, y_cl, ↓reduceIte, y_bs, y_bvs, y_os, y_on, y_t, ne_eq, not_true_eq_false, not_false_eq_true, pk_mul, nI_add]
      exact tok er N1 _ f4 et.symm f2 f3
    have cl2 : isL (b r) = false := Bool.eq_false_iff.mpr cl
    rw [if_neg cl]
    simp (disch := omega) only [y_lit, y_lt_T, y_lt_F, y_le_T, y_le_F, y_eq_T, y_eq_F, y_in_T, y_cl, ↓reduceIte, y_bs, y_bvs, y_os, y_on, y_t, ne_eq, not_true_eq_false, not_false_eq_true, pk_mul, nI_add]
    rw [sX9_isDigit M hb, q_b_s]
    by_cases cd : isD (b r) = true
    · have de1 := sX9_numberEnd T ok (n - r) r q_F (by omega) (q_Fn (by omega))
      have ek : kd b n r = 30 := by
        unfold kd
        rw [if_neg cr, if_neg cl, if_pos cd]
      have et : te b n r = de b n r := by
        unfold te
        rw [if_neg cl, if_pos cd]
      have enb : nb b n r = if de b n r - r ≤ 4 then nI (nv b n r) else -nI 1 := by
        unfold nb
        rw [if_neg cr, if_neg cl, if_pos cd]
      obtain ⟨N1, f1, f2, f3, f4⟩ := sX9_add (k := 30) (pp := r) (v := if de b n r - r ≤ 4 then nI (nv b n r) else -nI 1) h3 (by omega) R (by rw [← er, ek]) er (by rw [← er, enb])
      rw [if_pos cd]
      simp (disch := omega) only [y_lit, y_lt_T, y_lt_F, y_le_T, y_le_F, y_eq_T, y_eq_F, y_in_T, y_cl, ↓reduceIte, y_bs, y_bvs, y_os, y_on, y_t, ne_eq, not_true_eq_false, not_false_eq_true, pk_mul, nI_add]
      unfold fX9_numberEnd
      rw [de1, q_b_s, sX9_numberOf T hn (by omega), q_b_s, f1, q_bv_s]
      simp (disch := omega) only [fX9_take_b151, y_lit, y_lt_T, y_lt_F, y_le_T, y_le_F, y_eq_T, y_eq_F, y_in_T, y_cl, ↓reduceIte, y_bs, y_bvs, y_os, y_on, y_t, ne_eq, not_true_eq_false, not_false_eq_true, pk_mul, nI_add]
      exact tok er N1 _ f4 et.symm f2 f3
    have cd2 : isD (b r) = false := Bool.eq_false_iff.mpr cd
    have ek : kd b n r = sgn (b r) (if r + 1 < n then b (r + 1) else 0) := by
      unfold kd
      rw [if_neg cr, if_neg cl, if_neg cd]
    have enb : nb b n r = nI 0 := by
      unfold nb
      rw [if_neg cr, if_neg cl, if_neg cd]
    have klt := kd_lt ok.2 r
    have et := te_on (b := b) (n := n) (p := r) (by omega) cl2 cd2
    obtain ⟨N1, f1, f2, f3, f4⟩ := sX9_add (k := kd b n r) (pp := r) (v := nI 0) h3 (by omega) R (by rw [er]) er (by rw [← er, enb])
    rw [if_neg cd]
    simp (disch := omega) only [y_lit, y_lt_T, y_lt_F, y_le_T, y_le_F, y_eq_T, y_eq_F, y_in_T, y_cl, ↓reduceIte, y_bs, y_bvs, y_os, y_on, y_t, ne_eq, not_true_eq_false, not_false_eq_true, pk_mul, nI_add]
    rw [sX8_byteAt T hn (by omega), q_b_s, sX9_signOf M hb ok.2, q_b_s, ← ek, f1, q_bv_s]
    by_cases c5 : kd b n r < 512
    · rw [if_pos c5] at et
      simp (disch := omega) only [y_lit, y_lt_T, y_lt_F, y_le_T, y_le_F, y_eq_T, y_eq_F, y_in_T, y_cl, ↓reduceIte, y_bs, y_bvs, y_os, y_on, y_t, ne_eq, not_true_eq_false, not_false_eq_true, pk_mul, nI_add, fX9_take_b149, fX9_take_b151]
      exact tok er N1 _ f4 et.symm f2 f3
    · rw [if_neg c5] at et
      simp (disch := omega) only [y_lit, y_lt_T, y_lt_F, y_le_T, y_le_F, y_eq_T, y_eq_F, y_in_T, y_cl, ↓reduceIte, y_bs, y_bvs, y_os, y_on, y_t, ne_eq, not_true_eq_false, not_false_eq_true, pk_mul, nI_add, fX9_take_b149, fX9_take_b151]
      exact tok er N1 _ f4 et.symm f2 f3
theorem sX9_take (T : TP1 M n b) (ok : tp_ok n b) : qV (fX9_take M) (fun N => TK N b n ∧ kp S3 M N) := by
  have k0 : kp S3 M (p_i M 3 3 (nI 0)) := kp_i rfl
  obtain ⟨N, e, g1, g2⟩ := sX9_take_b9 ok 400 0 0 0 q_F (p_i M 3 3 (nI 0)) (by decide) (q_Fn (by decide)) (T.kept k0 (fun j z => by unfold S3 at z; omega)) (Nat.zero_le _) (by omega) (Nat.le_refl _) rfl (fun i hi => by omega) (by simp only [y_ii, y_ia, y_il, y_ir, y_ai, y_aa, y_al, y_ar, y_li, y_la, y_ll, y_lr, y_ri, y_ra, y_rl, y_rr, and_true, true_and, and_false, false_and, and_self, if_true, if_false, Nat.reduceEqDiff, reduceCtorEq, or_false, false_or, or_true, true_or]) (fun i hi => by omega)
  exact ⟨N, e, g1, k0.tr g2⟩
end TAKE
