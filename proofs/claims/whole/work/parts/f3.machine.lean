/-! the reference's test as a pure machine with a stack; it is the parser -/
def str (o : Nat) : Nat := if o = 11 then 1 else if o = 10 then 2 else if o = 9 then 3 else 0
def stl (k : Nat) : List Nat → PZ → List Nat × PZ
  | [], s => ([], s)
  | o :: st, s => if str o < k then (o :: st, s) else stl k st (p_em (o, 0) s)
def dp : List Nat → Nat
  | [] => 0
  | o :: st => dp st + if o = 9 ∨ o = 91 then 1 else 0
def i91 : List Nat → Bool
  | [] => false
  | o :: st => decide (o = 91) || i91 st
abbrev SK : Type := List Nat × PZ
section MACHINE
variable (b : Nat → Nat) (n : Nat)
/-- a fact is wanted -/
def aA (k : Bool → SK → Except Nat PZ) (q : SK) : Except Nat PZ :=
  if p_kd b n q.2 = 17 then (if dp q.1 = 10 then .error (fl 2 (z_p q.2)) else k true (9 :: q.1, p_nx b n q.2))
  else if p_kd b n q.2 = 347 then (if dp q.1 = 10 then .error (fl 2 (z_p q.2)) else k true (91 :: q.1, p_nx b n q.2))
  else x_b (p_cmp b n q.2) (fun s1 => k false (stl 3 q.1 s1))
/-- a fact has been read -/
def aB (k : Bool → SK → Except Nat PZ) (q : SK) : Except Nat PZ :=
  if p_kd b n q.2 = 349 ∧ i91 q.1 = true then k false (stl 3 (stl 1 q.1 q.2).1.tail (p_nx b n (stl 1 q.1 q.2).2))
  else if p_kd b n q.2 = 16 then k true (10 :: (stl 2 q.1 q.2).1, p_nx b n (stl 2 q.1 q.2).2)
  else if p_kd b n q.2 = 15 then k true (11 :: (stl 1 q.1 q.2).1, p_nx b n (stl 1 q.1 q.2).2)
  else if i91 q.1 = true then .error (fl 0 (z_p q.2)) else .ok (stl 1 q.1 q.2).2
def aX : Nat → Bool → SK → Except Nat PZ
  | 0, _, _ => .error 1
  | f + 1, ph, q => if ph = true then aA b n (aX f) q else aB b n (aX f) q
def aZ : Bool → SK → Except Nat PZ := aX b n 401
end MACHINE
section MPURE
variable {b : Nat → Nat} {n : Nat}
theorem stl_p (k : Nat) : ∀ (st : List Nat) (s : PZ), z_p (stl k st s).2 = z_p s := by
  intro st
  induction st with
  | nil => intro s; rfl
  | cons o st ih =>
    intro s
    unfold stl
    split
    · rfl
    · exact ih (p_em (o, 0) s)
theorem x_b_c {r : Except Nat PZ} {f g : PZ → Except Nat PZ} (h : ∀ s, r = .ok s → f s = g s) : x_b r f = x_b r g := by
  cases r with
  | error e => rfl
  | ok s => exact h s rfl
theorem x_b_a (r : Except Nat PZ) (f g : PZ → Except Nat PZ) : x_b (x_b r f) g = x_b r (fun s => x_b (f s) g) := by
  cases r with
  | error e => rfl
  | ok s => rfl
theorem x_b_o (r : Except Nat PZ) : x_b r (fun s => .ok s) = r := by
  cases r with
  | error e => rfl
  | ok s => rfl
theorem aA_c {k k2 : Bool → SK → Except Nat PZ} {q : SK} (h : ∀ ph q2, z_p q.2 < z_p q2.2 → z_p q2.2 ≤ n → k ph q2 = k2 ph q2) : aA b n k q = aA b n k2 q := by
  unfold aA
  by_cases c1 : p_kd b n q.2 = 17
  · have g := nx_b (b := b) (p_kd_on (b := b) (n := n) (s := q.2) (by omega))
    rw [if_pos c1, if_pos c1, h true (9 :: q.1, p_nx b n q.2) g.1 g.2]
  · rw [if_neg c1, if_neg c1]
    by_cases c2 : p_kd b n q.2 = 347
    · have g := nx_b (b := b) (p_kd_on (b := b) (n := n) (s := q.2) (by omega))
      rw [if_pos c2, if_pos c2, h true (91 :: q.1, p_nx b n q.2) g.1 g.2]
    · rw [if_neg c2, if_neg c2]
      refine x_b_c (fun s1 e => ?_)
      have T := (p_cmp_ty (ts := []) e (Nat.zero_le _)).1
      exact h false _ (by rw [stl_p]; exact T.1) (by rw [stl_p]; exact T.2.1)
theorem aB_c {k k2 : Bool → SK → Except Nat PZ} {q : SK} (h : ∀ ph q2, z_p q.2 < z_p q2.2 → z_p q2.2 ≤ n → k ph q2 = k2 ph q2) : aB b n k q = aB b n k2 q := by
  unfold aB
  have g : p_kd b n q.2 ≠ 31 → ∀ j, z_p q.2 < z_p (p_nx b n (stl j q.1 q.2).2) ∧ z_p (p_nx b n (stl j q.1 q.2).2) ≤ n := fun h31 j => by
    have g := nx_b (b := b) (p_kd_on h31)
    show z_p q.2 < nx b n (z_p (stl j q.1 q.2).2) ∧ nx b n (z_p (stl j q.1 q.2).2) ≤ n
    rw [stl_p]
    exact g
  by_cases c1 : p_kd b n q.2 = 349 ∧ i91 q.1 = true
  · rw [if_pos c1, if_pos c1]
    have := g (by omega) 1
    exact h false _ (by rw [stl_p]; exact this.1) (by rw [stl_p]; exact this.2)
  · rw [if_neg c1, if_neg c1]
    by_cases c2 : p_kd b n q.2 = 16
    · have := g (by omega) 2
      rw [if_pos c2, if_pos c2]
      exact h true _ this.1 this.2
    · rw [if_neg c2, if_neg c2]
      by_cases c3 : p_kd b n q.2 = 15
      · have := g (by omega) 1
        rw [if_pos c3, if_pos c3]
        exact h true _ this.1 this.2
      · rw [if_neg c3, if_neg c3]
theorem aX_f : ∀ (f g : Nat) (ph : Bool) (q : SK), n - z_p q.2 < f → n - z_p q.2 < g → aX b n f ph q = aX b n g ph q := by
  intro f
  induction f with
  | zero => intro g ph q h; omega
  | succ f ih =>
    intro g ph q h1 h2
    obtain ⟨g, rfl⟩ : ∃ p, g = p + 1 := ⟨g - 1, by omega⟩
    rw [aX, aX]
    by_cases c : ph = true
    · rw [if_pos c, if_pos c]
      exact aA_c (fun ph2 q2 a1 a2 => ih g ph2 q2 (by omega) (by omega))
    · rw [if_neg c, if_neg c]
      exact aB_c (fun ph2 q2 a1 a2 => ih g ph2 q2 (by omega) (by omega))
theorem aZ_t (hn : n ≤ 400) (q : SK) : aZ b n true q = aA b n (aZ b n) q := by
  show (if true = true then aA b n (aX b n 400) q else aB b n (aX b n 400) q) = _
  rw [if_pos rfl]
  exact aA_c (fun ph q2 h1 h2 => aX_f 400 401 ph q2 (by omega) (by omega))
theorem aZ_f (hn : n ≤ 400) (q : SK) : aZ b n false q = aB b n (aZ b n) q := by
  show (if false = true then aA b n (aX b n 400) q else aB b n (aX b n 400) q) = _
  rw [if_neg (by decide)]
  exact aB_c (fun ph q2 h1 h2 => aX_f 400 401 ph q2 (by omega) (by omega))
theorem aZ_10 (hn : n ≤ 400) (c : List Nat) (s : PZ) : aZ b n false (10 :: c, s) = aZ b n false (c, p_em (10, 0) s) := by
  rw [aZ_f hn, aZ_f hn]
  rfl
theorem aZ_11 (hn : n ≤ 400) (c : List Nat) (s : PZ) (h : p_kd b n s ≠ 16) : aZ b n false (11 :: c, s) = aZ b n false (c, p_em (11, 0) s) := by
  rw [aZ_f hn, aZ_f hn]
  unfold aB
  rw [if_neg (show ¬ p_kd b n (11 :: c, s).2 = 16 from h), if_neg (show ¬ p_kd b n (c, p_em (11, 0) s).2 = 16 from h)]
  rfl
/-- the top is weaker than m -/
def topL (m : Nat) (c : List Nat) : Prop := ∀ s, stl m c s = (c, s)
theorem topL.up {m k : Nat} {c : List Nat} (h : topL m c) (hk : m ≤ k) : topL k c := by
  intro s
  cases c with
  | nil => rfl
  | cons o st =>
    have g := h s
    unfold stl at g ⊢
    by_cases q : str o < m
    · rw [if_pos (by omega)]
    · exfalso
      rw [if_neg q] at g
      have len : ∀ (st : List Nat) (s : PZ), (stl m st s).1.length ≤ st.length := by
        intro st
        induction st with
        | nil => intro s; exact Nat.le_refl _
        | cons o st ih =>
          intro s
          unfold stl
          split
          · exact Nat.le_refl _
          · exact Nat.le_succ_of_le (ih _)
      have l := len st (p_em (o, 0) s)
      rw [g] at l
      have l : st.length + 1 ≤ st.length := l
      omega
theorem top91 (st : List Nat) {m : Nat} (hm : 0 < m) : topL m (91 :: st) := by
  intro s
  unfold stl
  rw [if_pos (show str 91 < m from hm)]
theorem top11 (st : List Nat) {m : Nat} (hm : 1 < m) : topL m (11 :: st) := by
  intro s
  unfold stl
  rw [if_pos (show str 11 < m from hm)]
theorem top10 (st : List Nat) {m : Nat} (hm : 2 < m) : topL m (10 :: st) := by
  intro s
  unfold stl
  rw [if_pos (show str 10 < m from hm)]
/-- reading a fact by the machine -/
def FZ (b : Nat → Nat) (n x : Nat) (F : PZ → Except Nat PZ) : Prop := ∀ (st : List Nat) (s : PZ), dp st = x → aZ b n true (st, s) = x_b (F s) (fun s1 => aZ b n false (stl 3 st s1))
theorem FT.gr {F : PZ → Except Nat PZ} (h : FT n F) {s s1 : PZ} (e : F s = .ok s1) : z_p s < z_p s1 ∧ z_p s1 ≤ n := by
  have T := (h s s1 [] e (Nat.zero_le _)).1
  exact ⟨T.1, T.2.1⟩
theorem aZ_L16 (hn : n ≤ 400) {x : Nat} {F : PZ → Except Nat PZ} (hT : FT n F) (hF : FZ b n x F) {c : List Nat} (hc : topL 2 c) (hx : dp c = x) : ∀ (f : Nat) (s : PZ), n - z_p s < f → aZ b n false (c, s) = x_b (p_jnL b n 16 10 F f s) (fun s1 => aZ b n false (c, s1)) ∧ ∀ s1, p_jnL b n 16 10 F f s = .ok s1 → p_kd b n s1 ≠ 16 := by
  intro f
  induction f with
  | zero => intro s h; omega
  | succ f ih =>
    intro s h
    unfold p_jnL
    by_cases k : p_kd b n s = 16
    · have g := nx_b (b := b) (p_kd_on (b := b) (n := n) (s := s) (by omega))
      have g : z_p s < nx b n (z_p s) ∧ nx b n (z_p s) ≤ n := g
      rw [if_pos k, x_b_a]
      have ihs : ∀ s2, F (p_nx b n s) = .ok s2 → n - z_p s2 < f := fun s2 e => by
        have g2 := hT.gr e
        have g2 : nx b n (z_p s) < z_p s2 ∧ z_p s2 ≤ n := g2
        omega
      refine ⟨?_, fun s1 e => ?_⟩
      · rw [aZ_f hn]
        unfold aB
        rw [if_neg (show ¬ (p_kd b n (c, s).2 = 349 ∧ i91 (c, s).1 = true) from fun z => by have z1 := z.1; have z1 : p_kd b n s = 349 := z1; omega), if_pos (show p_kd b n (c, s).2 = 16 from k)]
        show aZ b n true (10 :: (stl 2 c s).1, p_nx b n (stl 2 c s).2) = _
        rw [hc s]
        show aZ b n true (10 :: c, p_nx b n s) = _
        rw [hF (10 :: c) (p_nx b n s) (by rw [← hx]; rfl)]
        refine x_b_c (fun s2 e => ?_)
        rw [top10 c (by decide), aZ_10 hn]
        exact (ih (p_em (10, 0) s2) (ihs s2 e)).1
      · obtain ⟨s2, e1, e2⟩ := x_b_ok e
        exact (ih (p_em (10, 0) s2) (ihs s2 e1)).2 s1 e2
    · rw [if_neg k]
      refine ⟨rfl, fun s1 e => ?_⟩
      cases e
      exact k
theorem aZ_J16 (hn : n ≤ 400) {x : Nat} {F : PZ → Except Nat PZ} (hT : FT n F) (hF : FZ b n x F) {c : List Nat} (hc : topL 2 c) (hx : dp c = x) (s : PZ) : aZ b n true (c, s) = x_b (p_jn b n 16 10 F s) (fun s1 => aZ b n false (c, s1)) ∧ ∀ s1, p_jn b n 16 10 F s = .ok s1 → p_kd b n s1 ≠ 16 := by
  unfold p_jn
  have ihs : ∀ s2, F s = .ok s2 → n - z_p s2 < 400 := fun s2 e => by
    have g2 := hT.gr e
    omega
  refine ⟨?_, fun s1 e => ?_⟩
  · rw [hF c s hx, x_b_a]
    refine x_b_c (fun s2 e => ?_)
    rw [hc.up (k := 3) (by decide)]
    exact (aZ_L16 hn hT hF hc hx 400 s2 (ihs s2 e)).1
  · obtain ⟨s2, e1, e2⟩ := x_b_ok e
    exact (aZ_L16 hn hT hF hc hx 400 s2 (ihs s2 e1)).2 s1 e2
theorem aZ_L15 (hn : n ≤ 400) {x : Nat} {F : PZ → Except Nat PZ} (hT : FT n F) (hF : FZ b n x F) {c : List Nat} (hc : topL 1 c) (hx : dp c = x) : ∀ (f : Nat) (s : PZ), n - z_p s < f → p_kd b n s ≠ 16 → aZ b n false (c, s) = x_b (p_jnL b n 15 11 (p_jn b n 16 10 F) f s) (fun s1 => aZ b n false (c, s1)) ∧ ∀ s1, p_jnL b n 15 11 (p_jn b n 16 10 F) f s = .ok s1 → p_kd b n s1 ≠ 16 ∧ p_kd b n s1 ≠ 15 := by
  have hT2 := p_jn_ty (b := b) (Or.inr ⟨rfl, rfl⟩) hT
  intro f
  induction f with
  | zero => intro s h; omega
  | succ f ih =>
    intro s h k16
    unfold p_jnL
    by_cases k : p_kd b n s = 15
    · have g := nx_b (b := b) (p_kd_on (b := b) (n := n) (s := s) (by omega))
      have g : z_p s < nx b n (z_p s) ∧ nx b n (z_p s) ≤ n := g
      rw [if_pos k, x_b_a]
      have J := aZ_J16 hn hT hF (c := 11 :: c) (top11 c (by decide)) (by rw [← hx]; rfl) (p_nx b n s)
      have ihs : ∀ s2, p_jn b n 16 10 F (p_nx b n s) = .ok s2 → n - z_p s2 < f := fun s2 e => by
        have g2 := hT2.gr e
        have g2 : nx b n (z_p s) < z_p s2 ∧ z_p s2 ≤ n := g2
        omega
      refine ⟨?_, fun s1 e => ?_⟩
      · rw [aZ_f hn]
        unfold aB
        rw [if_neg (show ¬ (p_kd b n (c, s).2 = 349 ∧ i91 (c, s).1 = true) from fun z => by have z1 := z.1; have z1 : p_kd b n s = 349 := z1; omega), if_neg (show ¬ p_kd b n (c, s).2 = 16 from k16), if_pos (show p_kd b n (c, s).2 = 15 from k)]
        show aZ b n true (11 :: (stl 1 c s).1, p_nx b n (stl 1 c s).2) = _
        rw [hc s]
        show aZ b n true (11 :: c, p_nx b n s) = _
        rw [J.1]
        refine x_b_c (fun s2 e => ?_)
        rw [aZ_11 hn c s2 (J.2 s2 e)]
        exact (ih (p_em (11, 0) s2) (ihs s2 e) (J.2 s2 e)).1
      · obtain ⟨s2, e1, e2⟩ := x_b_ok e
        exact (ih (p_em (11, 0) s2) (ihs s2 e1) (J.2 s2 e1)).2 s1 e2
    · rw [if_neg k]
      refine ⟨rfl, fun s1 e => ?_⟩
      cases e
      exact ⟨k16, k⟩
theorem aZ_tst (hn : n ≤ 400) {x : Nat} {F : PZ → Except Nat PZ} (hT : FT n F) (hF : FZ b n x F) {c : List Nat} (hc : topL 1 c) (hx : dp c = x) (s : PZ) : aZ b n true (c, s) = x_b (p_tst b n F s) (fun s1 => aZ b n false (c, s1)) ∧ ∀ s1, p_tst b n F s = .ok s1 → p_kd b n s1 ≠ 16 ∧ p_kd b n s1 ≠ 15 := by
  have J := aZ_J16 hn hT hF (c := c) (hc.up (by decide)) hx s
  have hT2 := p_jn_ty (b := b) (Or.inr ⟨rfl, rfl⟩) hT
  have ihs : ∀ s2, p_jn b n 16 10 F s = .ok s2 → n - z_p s2 < 400 := fun s2 e => by
    have g2 := hT2.gr e
    omega
  refine ⟨?_, fun s1 e => ?_⟩
  · rw [J.1]
    show _ = x_b (x_b (p_jn b n 16 10 F s) (p_jnL b n 15 11 (p_jn b n 16 10 F) 400)) (fun s1 => aZ b n false (c, s1))
    rw [x_b_a]
    exact x_b_c (fun s2 e => (aZ_L15 hn hT hF hc hx 400 s2 (ihs s2 e) (J.2 s2 e)).1)
  · have e : x_b (p_jn b n 16 10 F s) (p_jnL b n 15 11 (p_jn b n 16 10 F) 400) = .ok s1 := e
    obtain ⟨s2, e1, e2⟩ := x_b_ok e
    exact (aZ_L15 hn hT hF hc hx 400 s2 (ihs s2 e1) (J.2 s2 e1)).2 s1 e2
theorem aZ_fact (hn : n ≤ 400) : ∀ (d x : Nat), x ≤ 10 → 10 < d + x → FZ b n x (p_fact b n d x) := by
  intro d
  induction d with
  | zero => intro x h1 h2; omega
  | succ d ih =>
    intro x h1 h2 st s hx
    rw [aZ_t hn]
    unfold aA p_fact
    show (if p_kd b n s = 17 then (if dp st = 10 then .error (fl 2 (z_p s)) else aZ b n true (9 :: st, p_nx b n s)) else if p_kd b n s = 347 then (if dp st = 10 then .error (fl 2 (z_p s)) else aZ b n true (91 :: st, p_nx b n s)) else x_b (p_cmp b n s) (fun s1 => aZ b n false (stl 3 st s1))) = _
    by_cases c1 : p_kd b n s = 17
    · rw [if_pos c1, if_pos c1]
      by_cases cx : x < 10
      · rw [if_neg (by omega), if_pos cx, ih (x + 1) (by omega) (by omega) (9 :: st) (p_nx b n s) (by rw [← hx]; rfl), x_b_a]
        rfl
      · rw [if_pos (by omega), if_neg cx]
        rfl
    · rw [if_neg c1, if_neg c1]
      by_cases c2 : p_kd b n s = 347
      · rw [if_pos c2, if_pos c2]
        by_cases cx : x < 10
        · have J := aZ_tst hn (p_fact_ty d (x + 1)) (ih (x + 1) (by omega) (by omega)) (c := 91 :: st) (top91 st (by decide)) (by rw [← hx]; rfl) (p_nx b n s)
          rw [if_neg (by omega), if_pos cx, J.1, x_b_a]
          refine x_b_c (fun s1 e => ?_)
          have k := J.2 s1 e
          rw [aZ_f hn]
          unfold aB
          by_cases c3 : p_kd b n s1 = 349
          · rw [if_pos (show p_kd b n (91 :: st, s1).2 = 349 ∧ i91 (91 :: st, s1).1 = true from ⟨c3, rfl⟩), if_pos c3]
            rfl
          · rw [if_neg (show ¬ (p_kd b n (91 :: st, s1).2 = 349 ∧ i91 (91 :: st, s1).1 = true) from fun z => c3 z.1), if_neg (show ¬ p_kd b n (91 :: st, s1).2 = 16 from k.1), if_neg (show ¬ p_kd b n (91 :: st, s1).2 = 15 from k.2), if_pos (show i91 (91 :: st, s1).1 = true from rfl), if_neg c3]
            rfl
        · rw [if_pos (by omega), if_neg cx]
          rfl
      · rw [if_neg c2, if_neg c2]
/-- the machine is the parser -/
theorem aZ_is (hn : n ≤ 400) (s : PZ) : aZ b n true ([], s) = p_tst b n (p_fact b n 14 0) s := by
  have J := aZ_tst (b := b) hn (p_fact_ty 14 0) (aZ_fact hn 14 0 (by decide) (by decide)) (c := []) (fun s => rfl) rfl s
  rw [J.1]
  refine Eq.trans (x_b_c (fun s1 e => ?_)) (x_b_o _)
  have k := J.2 s1 e
  rw [aZ_f hn]
  unfold aB
  rw [if_neg (show ¬ (p_kd b n (([] : List Nat), s1).2 = 349 ∧ i91 (([] : List Nat), s1).1 = true) from fun z => by cases z.2), if_neg (show ¬ p_kd b n (([] : List Nat), s1).2 = 16 from k.1), if_neg (show ¬ p_kd b n (([] : List Nat), s1).2 = 15 from k.2), if_neg (show ¬ i91 (([] : List Nat), s1).1 = true from fun z => by cases z)]
  rfl
end MPURE
