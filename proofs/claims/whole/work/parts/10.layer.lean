/-! THE LAYER: a pure memory (numbers of objects, not addresses), the heap that holds it, and V: "the machine, at this pc, with these
locals and this stack, over any heap that holds M, comes to its end". A row an instruction; calls by contracts whose end is told exactly. -/
abbrev QM : Type := (Nat → Nat → Int32) × (Nat → Nat → Nat → Int32) × (Nat → Nat → Nat → Int64) × (Nat → Nat → Nat)
def q_i (M : QM) (o j : Nat) : Int32 := M.1 o j
def q_a (M : QM) (o j i : Nat) : Int32 := M.2.1 o j i
def q_l (M : QM) (o j i : Nat) : Int64 := M.2.2.1 o j i
def q_r (M : QM) (o j : Nat) : Nat := M.2.2.2 o j
def p_i (M : QM) (o j : Nat) (v : Int32) : QM := (fun a b => if a = o ∧ b = j then v else M.1 a b, M.2)
def p_a (M : QM) (o j i : Nat) (v : Int32) : QM := (M.1, fun a b k => if a = o ∧ b = j ∧ k = i then v else M.2.1 a b k, M.2.2)
def p_l (M : QM) (o j i : Nat) (v : Int64) : QM := (M.1, M.2.1, fun a b k => if a = o ∧ b = j ∧ k = i then v else M.2.2.1 a b k, M.2.2.2)
def p_r (M : QM) (o j : Nat) (v : Nat) : QM := (M.1, M.2.1, M.2.2.1, fun a b => if a = o ∧ b = j then v else M.2.2.2 a b)
theorem q_i_p_i (M : QM) (o j : Nat) (v : Int32) (a b : Nat) : q_i (p_i M o j v) a b = if a = o ∧ b = j then v else q_i M a b := rfl
theorem q_i_p_a (M : QM) (o j i : Nat) (v : Int32) (a b : Nat) : q_i (p_a M o j i v) a b = q_i M a b := rfl
theorem q_i_p_l (M : QM) (o j i : Nat) (v : Int64) (a b : Nat) : q_i (p_l M o j i v) a b = q_i M a b := rfl
theorem q_i_p_r (M : QM) (o j : Nat) (v : Nat) (a b : Nat) : q_i (p_r M o j v) a b = q_i M a b := rfl
theorem q_a_p_i (M : QM) (o j : Nat) (v : Int32) (a b k : Nat) : q_a (p_i M o j v) a b k = q_a M a b k := rfl
theorem q_a_p_a (M : QM) (o j i : Nat) (v : Int32) (a b k : Nat) : q_a (p_a M o j i v) a b k = if a = o ∧ b = j ∧ k = i then v else q_a M a b k := rfl
theorem q_a_p_l (M : QM) (o j i : Nat) (v : Int64) (a b k : Nat) : q_a (p_l M o j i v) a b k = q_a M a b k := rfl
theorem q_a_p_r (M : QM) (o j : Nat) (v : Nat) (a b k : Nat) : q_a (p_r M o j v) a b k = q_a M a b k := rfl
theorem q_l_p_i (M : QM) (o j : Nat) (v : Int32) (a b k : Nat) : q_l (p_i M o j v) a b k = q_l M a b k := rfl
theorem q_l_p_a (M : QM) (o j i : Nat) (v : Int32) (a b k : Nat) : q_l (p_a M o j i v) a b k = q_l M a b k := rfl
theorem q_l_p_l (M : QM) (o j i : Nat) (v : Int64) (a b k : Nat) : q_l (p_l M o j i v) a b k = if a = o ∧ b = j ∧ k = i then v else q_l M a b k := rfl
theorem q_l_p_r (M : QM) (o j : Nat) (v : Nat) (a b k : Nat) : q_l (p_r M o j v) a b k = q_l M a b k := rfl
theorem q_r_p_i (M : QM) (o j : Nat) (v : Int32) (a b : Nat) : q_r (p_i M o j v) a b = q_r M a b := rfl
theorem q_r_p_a (M : QM) (o j i : Nat) (v : Int32) (a b : Nat) : q_r (p_a M o j i v) a b = q_r M a b := rfl
theorem q_r_p_l (M : QM) (o j i : Nat) (v : Int64) (a b : Nat) : q_r (p_l M o j i v) a b = q_r M a b := rfl
theorem q_r_p_r (M : QM) (o j : Nat) (v : Nat) (a b : Nat) : q_r (p_r M o j v) a b = if a = o ∧ b = j then v else q_r M a b := rfl
/-- of an object's number: its class's place in vwCl -/
def klT : List Nat := [10, 7, 5, 8, 0, 3, 9, 6, 6, 6, 2, 2, 2, 2, 2, 2, 2, 2, 2, 2, 1, 1, 1, 1, 1]
def kls (o : Nat) : Nat := if o < 25 then klT.getD o 99 else if 100 ≤ o ∧ o < 220 then 4 else if o = 1000 then 11 else 99
/-- a class's fields: 0 a number, 1 an array, 2 an object that stays, 3 an object that may change -/
def fkT : List (List Nat) := [[2, 2, 3, 3, 0, 0, 1, 1, 0], [1, 1, 1, 1, 1, 1, 0, 0, 0], [1, 1, 1, 1, 1, 1, 1, 0, 0, 0, 0, 0], [1, 0], [1, 1, 0, 0, 0, 0, 0, 0], [2, 3, 0, 0, 0, 0], [1], [1, 0], [1, 1, 1, 0], [1, 1, 1, 1, 1, 1, 0, 0, 0], [2, 1, 2, 2, 2, 1, 2, 2, 2, 2, 0], [0, 1, 1, 1, 0, 0, 1, 1, 1, 1, 1, 1, 1, 1, 0, 0, 0, 0, 0, 0, 1, 0, 1, 1, 0, 0, 1, 1, 0, 0, 1, 0, 0, 0, 0, 0, 1, 1, 1, 1, 1, 1, 0, 1, 1, 1]]
def fk (c j : Nat) : Nat := (fkT.getD c []).getD j 9
def nfl (c : Nat) : Nat := (fkT.getD c []).length
/-- an array's sort: 0 int, 1 long, 2 byte, 3 boolean, 4 Code, 5 Quarrel, 6 Book -/
def akT : List (List Nat) := [[9, 9, 9, 9, 9, 9, 0, 0, 9], [0, 0, 0, 0, 0, 5, 9, 9, 9], [0, 0, 0, 0, 0, 0, 0, 9, 9, 9, 9, 9], [0, 9], [0, 0, 9, 9, 9, 9, 9, 9], [9, 9, 9, 9, 9, 9], [0], [0, 9], [0, 0, 0, 9], [0, 1, 0, 0, 1, 0, 9, 9, 9], [9, 4, 9, 9, 9, 6, 9, 9, 9, 9, 9], [9, 0, 0, 2, 9, 9, 0, 0, 0, 0, 0, 0, 0, 0, 9, 9, 9, 9, 9, 9, 0, 9, 0, 0, 9, 9, 0, 0, 9, 9, 0, 9, 9, 9, 9, 9, 3, 0, 0, 0, 1, 0, 9, 0, 0, 3]]
def ak (c j : Nat) : Nat := (akT.getD c []).getD j 9
def alT : List (List Nat) := [[0, 0, 0, 0, 0, 0, 4096, 4096, 0], [12, 12, 12, 12, 12, 24, 0, 0, 0], [14, 14, 14, 14, 14, 256, 64, 0, 0, 0, 0, 0], [4096, 0], [9, 9, 0, 0, 0, 0, 0, 0], [0, 0, 0, 0, 0, 0], [10], [400, 0], [401, 401, 401, 0], [4096, 4096, 4096, 4096, 20, 20, 0, 0, 0], [0, 6, 0, 0, 0, 4, 0, 0, 0, 0, 0], [0, 48, 144, 400, 0, 0, 2400, 6, 420, 6, 6, 6, 6, 6, 0, 0, 0, 0, 0, 0, 400, 0, 10, 64, 0, 0, 2, 2, 0, 0, 2, 0, 0, 0, 0, 0, 13824, 13824, 13824, 13824, 13824, 13824, 0, 1536, 6920, 4]]
def al (c j : Nat) : Nat := (alT.getD c []).getD j 0
/-- the objects that stay in a field, and in an array -/
def sub (o j : Nat) : Nat := if o = 0 then [1, 0, 16, 2, 20, 0, 7, 4, 5, 6].getD j 99 else if o = 4 then [8, 9].getD j 99 else 3
def el (o j i : Nat) : Nat := if o = 0 then (if j = 1 then 10 + i else 21 + i) else 100 + 24 * (o - 20) + i
/-- a layout: the kit's table, the objects' and the arrays' addresses, the array classes, the side (0 the class, 1 the reference) -/
abbrev Ly : Type := va_G × (Nat → Nat) × (Nat → Nat → Nat) × (Nat → ClassId) × Nat
def ly_o (y : Ly) (o : Nat) : Nat := y.2.1 o
def ly_a (y : Ly) (o j : Nat) : Nat := y.2.2.1 o j
def ly_c (y : Ly) (k : Nat) : ClassId := y.2.2.2.1 k
def ly_S (y : Ly) (o : Nat) : Prop := if y.2.2.2.2 = 0 then kls o < 11 else kls o = 11
def ly_A (y : Ly) (q : Nat) : Prop := (∃ o, ly_S y o ∧ q = ly_o y o) ∨ ∃ o j, ly_S y o ∧ j < nfl (kls o) ∧ fk (kls o) j = 1 ∧ q = ly_a y o j
def ly_f (y : Ly) (M : QM) (o j : Nat) : Value := match fk (kls o) j with
  | 0 => .int (q_i M o j)
  | 1 => .ref (ly_a y o j)
  | 2 => .ref (ly_o y (sub o j))
  | _ => .ref (ly_o y (q_r M o j))
def ly_z (y : Ly) (M : QM) (o j : Nat) : Cell := match ak (kls o) j with
  | 0 => arrV (ly_c y 0) (al (kls o) j) (fun i => .int (q_a M o j i))
  | 1 => arrV (ly_c y 1) (al (kls o) j) (fun i => .long (q_l M o j i))
  | 2 => arrV (ly_c y 2) (al (kls o) j) (fun i => .int (q_a M o j i))
  | 3 => arrV (ly_c y 3) (al (kls o) j) (fun i => .int (q_a M o j i))
  | k => arrV (ly_c y k) (al (kls o) j) (fun i => .ref (ly_o y (el o j i)))
/-- an index within -/
abbrev q_in (i : Int32) (n : Nat) : Prop := ¬ (i < 0 ∨ n ≤ i.toNatClampNeg)
def ly_t (y : Ly) : List (ClassId × FieldType) := [(ly_c y 0, .int), (ly_c y 1, .long), (ly_c y 2, .byte), (ly_c y 3, .boolean), (ly_c y 4, .object "TwoCards$Code"), (ly_c y 5, .object "TwoCards$Quarrel"), (ly_c y 6, .object "TwoCards$Book")]
/-- the heap holds M -/
def RepS (S : Nat → Prop) (y : Ly) (M : QM) (H : Heap) : Prop :=
  (∀ o, S o → t_OB (ly_o y o) (y.1.1 (kls o)) (nfl (kls o)) (y.1.2 (kls o)) H (ly_f y M o)) ∧
  (∀ o j, S o → j < nfl (kls o) → fk (kls o) j = 1 → H[ly_a y o j]? = some (ly_z y M o j)) ∧
  ∀ o j, S o → j < nfl (kls o) → fk (kls o) j = 3 → kls (q_r M o j) = 2
abbrev Rep (y : Ly) (M : QM) (H : Heap) : Prop := RepS (ly_S y) y M H
def ly_J (y : Ly) : Prop :=
  (∀ a b, ly_S y a → ly_S y b → ly_o y a = ly_o y b → a = b) ∧
  (∀ a i b j, ly_S y a → ly_S y b → fk (kls a) i = 1 → fk (kls b) j = 1 → ly_a y a i = ly_a y b j → a = b ∧ i = j) ∧
  ∀ a b j, ly_S y a → ly_S y b → fk (kls b) j = 1 → ly_o y a ≠ ly_a y b j
abbrev ly_K (y : Ly) (U : State) : Prop := va_K y.1 vwCl (ly_t y) U
def q_Nl : List (String × Nat × MethodName × String) := [("TwoCards", 11, ⟨"TwoCards$Tape", "<init>", "()V"⟩, "TwoCards"), ("TwoCards", 22, ⟨"TwoCards$Code", "<init>", "()V"⟩, "TwoCards"), ("TwoCards", 29, ⟨"TwoCards$Reader", "<init>", "()V"⟩, "TwoCards"), ("TwoCards", 47, ⟨"TwoCards$Sight", "<init>", "()V"⟩, "TwoCards"), ("TwoCards", 54, ⟨"TwoCards$Affair", "<init>", "()V"⟩, "TwoCards"), ("TwoCards", 61, ⟨"TwoCards$Game", "<init>", "()V"⟩, "TwoCards"), ("TwoCards", 68, ⟨"TwoCards$Walk", "<init>", "()V"⟩, "TwoCards"), ("TwoCards$Affair", 11, ⟨"TwoCards$Sight", "<init>", "()V"⟩, "TwoCards"), ("TwoCards$Affair", 23, ⟨"TwoCards$Code", "<init>", "()V"⟩, "TwoCards"), ("TwoCards$Book", 33, ⟨"TwoCards$Quarrel", "<init>", "()V"⟩, "TwoCards"), ("TwoCards$Reader", 11, ⟨"TwoCards$Tokens", "<init>", "()V"⟩, "TwoCards"), ("TwoCards$Reader", 118, ⟨"TwoCards", "isWithin", "(III)Z"⟩, "TwoCards"), ("TwoCards$Reader", 20, ⟨"TwoCards$Code", "<init>", "()V"⟩, "TwoCards")]
/-- the links among nest mates -/
def ly_N (U : State) : Prop := ∀ q ∈ q_Nl, va_Nw (.methodLinkNest q.1 q.2.1 q.2.2.1 q.2.2.2) U
/-- the String constant that Tokens reads: its cell (ly_c y 7), its bytes' cell (ly_c y 8), the JDK's statics beside it -/
def q_txt : String := "slight back refuse ask hours must look word lie blow bow s\x6frry letter public if or and not age rank hisage hisrank kin owes ladies owed mine gone "
def q_bytes : List Int32 := [115, 108, 105, 103, 104, 116, 32, 98, 97, 99, 107, 32, 114, 101, 102, 117, 115, 101, 32, 97, 115, 107, 32, 104, 111, 117, 114, 115, 32, 109, 117, 115, 116, 32, 108, 111, 111, 107, 32, 119, 111, 114, 100, 32, 108, 105, 101, 32, 98, 108, 111, 119, 32, 98, 111, 119, 32, 115, 111, 114, 114, 121, 32, 108, 101, 116, 116, 101, 114, 32, 112, 117, 98, 108, 105, 99, 32, 105, 102, 32, 111, 114, 32, 97, 110, 100, 32, 110, 111, 116, 32, 97, 103, 101, 32, 114, 97, 110, 107, 32, 104, 105, 115, 97, 103, 101, 32, 104, 105, 115, 114, 97, 110, 107, 32, 107, 105, 110, 32, 111, 119, 101, 115, 32, 108, 97, 100, 105, 101, 115, 32, 111, 119, 101, 100, 32, 109, 105, 110, 101, 32, 103, 111, 110, 101, 32]
def ly_T (y : Ly) (U : State) : Prop := va_O "java/lang/String" (ly_c y 7) (ly_A y) U U.heap ∧ va_OF "java/lang/String" "coder" "B" (.int 0) (ly_c y 7) (ly_A y) U U.heap ∧ va_OF "java/lang/String" "value" "[B" (.ref (ly_c y 8)) (ly_c y 7) (ly_A y) U U.heap ∧ va_T .byte (ly_c y 8) 146 (fun j => .int (q_bytes.getD j 0)) (ly_A y) U U.heap ∧
  va_Z "java/lang/String" "COMPACT_STRINGS" "Z" (.int 1) (ly_A y) U U.heap ∧ va_Zq "jdk/internal/util/Preconditions" "SIOOBE_FORMATTER" "Ljava/util/function/BiFunction;" (ly_A y) U U.heap ∧ vk_R "TwoCards$Tokens" 63 q_txt (ly_c y 7) U
theorem ly_T.step {y : Ly} {s U : State} (h : ly_T y s) (hW : s.WarmedH U.vm) (hq : ∀ q : Nat, q < s.heap.size → ¬ ly_A y q → U.heap[q]? = s.heap[q]?) : ly_T y U :=
  ⟨(va_O.moved hW.alike h.1).kept hq, (va_OF.moved hW.alike h.2.1).kept hq, (va_OF.moved hW.alike h.2.2.1).kept hq, (va_T.moved hW.alike h.2.2.2.1).kept hq, (va_Z.moved hW.alike h.2.2.2.2.1).kept hq, (va_Zq.moved hW.alike h.2.2.2.2.2.1).kept hq, vk_R.warm hW h.2.2.2.2.2.2⟩
theorem ly_T.same {y : Ly} {s U : State} (h : ly_T y s) (hv : U.vm = s.vm) (hq : U.heap = s.heap) : ly_T y U := by
  have ha : s.vm.Alike U.vm := by rw [hv]; exact Vm.Alike.refl _
  have hk : ∀ q : Nat, q < s.heap.size → ¬ ly_A y q → U.heap[q]? = s.heap[q]? := fun q _ _ => by rw [hq]
  exact ⟨(va_O.moved ha h.1).kept hk, (va_OF.moved ha h.2.1).kept hk, (va_OF.moved ha h.2.2.1).kept hk, (va_T.moved ha h.2.2.2.1).kept hk, (va_Z.moved ha h.2.2.2.2.1).kept hk, (va_Zq.moved ha h.2.2.2.2.2.1).kept hk, vk_R.same hv h.2.2.2.2.2.2⟩
def ly_W (y : Ly) (M : QM) (U : State) : Prop := Rep y M U.heap ∧ ly_K y U ∧ ly_N U ∧ ly_T y U
def okc (y : Ly) (c : Nat) : Prop := ∀ o, kls o = c → ly_S y o
theorem okc_0 {y : Ly} (h : y.2.2.2.2 = 0) {c : Nat} (hc : c < 11) : okc y c := fun o ho => by
  unfold ly_S
  rw [if_pos h, ho]
  exact hc
theorem okc_1 {y : Ly} (h : y.2.2.2.2 = 1) : okc y 11 := fun o ho => by
  unfold ly_S
  rw [if_neg (by rw [h]; decide)]
  exact ho
theorem rep_kept {y : Ly} {M : QM} {H H1 : Heap} (h : Rep y M H) (hq : ∀ q, ly_A y q → H1[q]? = H[q]?) : Rep y M H1 :=
  ⟨fun o ho => (h.1 o ho).kept (hq _ (Or.inl ⟨o, ho, rfl⟩)), fun o j ho hj hf => (hq _ (Or.inr ⟨o, j, ho, hj, hf, rfl⟩)).trans (h.2.1 o j ho hj hf), h.2.2⟩
/-- a number is written into a field -/
theorem rep_pi {y : Ly} {M : QM} {H H1 : Heap} (hJ : ly_J y) (h : Rep y M H) {o j : Nat} {v : Int32} (ho : ly_S y o) (hf : fk (kls o) j = 0)
    (hn : t_OB (ly_o y o) (y.1.1 (kls o)) (nfl (kls o)) (y.1.2 (kls o)) H1 (updV (ly_f y M o) j (.int v))) (oq : ∀ q : Nat, q ≠ ly_o y o → H1[q]? = H[q]?) : Rep y (p_i M o j v) H1 := by
  refine ⟨fun a ha => ?_, fun a i ha hi hfi => ?_, fun a i ha hi hfi => h.2.2 a i ha hi hfi⟩
  · by_cases e : a = o
    · subst e
      refine hn.to fun k _ => ?_
      unfold updV ly_f
      by_cases ek : k = j
      · subst ek
        rw [if_pos rfl, hf]
        show _ = Value.int (q_i _ _ _)
        rw [q_i_p_i, if_pos ⟨rfl, rfl⟩]
      · rw [if_neg ek]
        simp only [q_i_p_i, q_r_p_i, ek, and_false, if_false]
    · have h1 := (h.1 a ha).kept (oq _ (fun z => e (hJ.1 a o ha ho z)))
      refine h1.to fun k _ => ?_
      unfold ly_f
      simp only [q_i_p_i, q_r_p_i, e, false_and, if_false]
  · rw [oq _ (fun z => hJ.2.2 o a i ho ha hfi z.symm)]
    exact h.2.1 a i ha hi hfi
/-- an object is written into a field -/
theorem rep_pr {y : Ly} {M : QM} {H H1 : Heap} (hJ : ly_J y) (h : Rep y M H) {o j v : Nat} (ho : ly_S y o) (hf : fk (kls o) j = 3) (hv : kls v = 2)
    (hn : t_OB (ly_o y o) (y.1.1 (kls o)) (nfl (kls o)) (y.1.2 (kls o)) H1 (updV (ly_f y M o) j (.ref (ly_o y v)))) (oq : ∀ q : Nat, q ≠ ly_o y o → H1[q]? = H[q]?) : Rep y (p_r M o j v) H1 := by
  refine ⟨fun a ha => ?_, fun a i ha hi hfi => ?_, fun a i ha hi hfi => ?_⟩
  · by_cases e : a = o
    · subst e
      refine hn.to fun k _ => ?_
      unfold updV ly_f
      by_cases ek : k = j
      · subst ek
        rw [if_pos rfl, hf]
        show _ = Value.ref (ly_o y (q_r _ _ _))
        rw [q_r_p_r, if_pos ⟨rfl, rfl⟩]
      · rw [if_neg ek]
        simp only [q_r_p_r, q_i_p_r, ek, and_false, if_false]
    · have h1 := (h.1 a ha).kept (oq _ (fun z => e (hJ.1 a o ha ho z)))
      refine h1.to fun k _ => ?_
      unfold ly_f
      simp only [q_r_p_r, q_i_p_r, e, false_and, if_false]
  · rw [oq _ (fun z => hJ.2.2 o a i ho ha hfi z.symm)]
    exact h.2.1 a i ha hi hfi
  · rw [q_r_p_r]
    by_cases e : a = o ∧ i = j
    · rw [if_pos e]
      exact hv
    · rw [if_neg e]
      exact h.2.2 a i ha hi hfi
/-- a cell of an array is written -/
theorem rep_pa {y : Ly} {M : QM} {H H1 : Heap} (hJ : ly_J y) (h : Rep y M H) {o j i : Nat} {v : Int32} (ho : ly_S y o) (hfo : fk (kls o) j = 1)
    (hn : H1[ly_a y o j]? = some (ly_z y (p_a M o j i v) o j)) (oq : ∀ q : Nat, q ≠ ly_a y o j → H1[q]? = H[q]?) : Rep y (p_a M o j i v) H1 := by
  refine ⟨fun a ha => ?_, fun a k ha hi hfi => ?_, fun a k ha hi hfi => h.2.2 a k ha hi hfi⟩
  · exact (h.1 a ha).kept (oq _ (hJ.2.2 a o j ha ho hfo))
  · by_cases e : a = o ∧ k = j
    · obtain ⟨rfl, rfl⟩ := e
      exact hn
    · rw [oq _ (fun z => e (hJ.2.1 a k o j ha ho hfi hfo z)), h.2.1 a k ha hi hfi]
      have e2 : ∀ n, q_a (p_a M o j i v) a k n = q_a M a k n := fun n => by
        rw [q_a_p_a, if_neg (fun z => e ⟨z.1, z.2.1⟩)]
      unfold ly_z
      simp only [e2, q_l_p_a]
theorem rep_pl {y : Ly} {M : QM} {H H1 : Heap} (hJ : ly_J y) (h : Rep y M H) {o j i : Nat} {v : Int64} (ho : ly_S y o) (hfo : fk (kls o) j = 1)
    (hn : H1[ly_a y o j]? = some (ly_z y (p_l M o j i v) o j)) (oq : ∀ q : Nat, q ≠ ly_a y o j → H1[q]? = H[q]?) : Rep y (p_l M o j i v) H1 := by
  refine ⟨fun a ha => ?_, fun a k ha hi hfi => ?_, fun a k ha hi hfi => h.2.2 a k ha hi hfi⟩
  · exact (h.1 a ha).kept (oq _ (hJ.2.2 a o j ha ho hfo))
  · by_cases e : a = o ∧ k = j
    · obtain ⟨rfl, rfl⟩ := e
      exact hn
    · rw [oq _ (fun z => e (hJ.2.1 a k o j ha ho hfi hfo z)), h.2.1 a k ha hi hfi]
      have e2 : ∀ n, q_l (p_l M o j i v) a k n = q_l M a k n := fun n => by
        rw [q_l_p_l, if_neg (fun z => e ⟨z.1, z.2.1⟩)]
      unfold ly_z
      simp only [e2, q_a_p_l]
/-- one after another -/
def q_b {α β : Type} (a : Option (α × QM)) (f : α → QM → Option β) : Option β := match a with
  | none => none
  | some (r, M) => f r M
def q_bv {β : Type} (a : Option QM) (f : QM → Option β) : Option β := match a with
  | none => none
  | some M => f M
/-- nobody, or somebody -/
def q_o {β : Type} (a : Option Nat) (n : Option β) (f : Nat → Option β) : Option β := match a with
  | none => n
  | some k => f k
theorem q_bE {α β : Type} {a : Option (α × QM)} {f : α → QM → Option β} {z : β} (h : q_b a f = some z) : ∃ r M, a = some (r, M) ∧ f r M = some z := by
  cases a with
  | none => cases h
  | some p => exact ⟨p.1, p.2, rfl, h⟩
theorem q_bvE {β : Type} {a : Option QM} {f : QM → Option β} {z : β} (h : q_bv a f = some z) : ∃ M, a = some M ∧ f M = some z := by
  cases a with
  | none => cases h
  | some p => exact ⟨p, rfl, h⟩
theorem q_kE {c : Prop} [Decidable c] {β : Type} {A : Option β} {z : β} (h : (if c then A else none) = some z) : c ∧ A = some z := by
  by_cases hc : c
  · rw [if_pos hc] at h
    exact ⟨hc, h⟩
  · rw [if_neg hc] at h
    cases h
theorem q_b_some {α β : Type} (r : α) (M : QM) (f : α → QM → Option β) : q_b (some (r, M)) f = f r M := rfl
theorem q_bv_some {β : Type} (M : QM) (f : QM → Option β) : q_bv (some M) f = f M := rfl
theorem q_o_some {β : Type} (k : Nat) (n : Option β) (f : Nat → Option β) : q_o (some k) n f = f k := rfl
theorem q_o_none {β : Type} (n : Option β) (f : Nat → Option β) : q_o none n f = n := rfl
/-! the judgement -/
abbrev Cx : Type := Program × Launch × Env × Room × State × MethodId × Array Value × List Frame × Method × Code × (State → Prop)
def cx_l (x : Cx) : Launch := x.2.1
def cx_R (x : Cx) : Room := x.2.2.2.1
def cx_s (x : Cx) : State := x.2.2.2.2.1
def cx_m (x : Cx) : MethodId := x.2.2.2.2.2.1
def cx_v (x : Cx) : Array Value := x.2.2.2.2.2.2.1
def cx_b (x : Cx) : List Frame := x.2.2.2.2.2.2.2.1
def cx_h (x : Cx) : Method := x.2.2.2.2.2.2.2.2.1
def cx_c (x : Cx) : Code := x.2.2.2.2.2.2.2.2.2.1
def cx_Q (x : Cx) : State → Prop := x.2.2.2.2.2.2.2.2.2.2
abbrev cx_W (x : Cx) (H : Heap) (locs : List Loc) (g : JFrame) : Prop := W x.1 (cx_l x) x.2.2.1 (cx_R x) (cx_s x) (cx_m x) (cx_v x) (cx_b x) (cx_h x) (cx_c x) H locs 0 0 (cx_Q x) g
def V (x : Cx) (y : Ly) (n : Nat) (M : QM) (pc : Nat) (lv : List (Nat × Value)) (st : List Value) : Prop :=
  ∀ (H : Heap) (locs : List Loc) (ls : Array Slot), Rep y M H → va_S (ly_A y) (cx_s x).heap H locs → lv_has ls n lv → cx_W x H locs (F0 (cx_m x) pc ls st)
def VK (x : Cx) (l : Launch) (R : Room) (y : Ly) (n : Nat) (cc : ByteArray) (own : String) (Ts : List Cond) : Prop :=
  x.1.tables.exec = Jvm.exec ∧ (cx_c x).code = cc ∧ (cx_c x).maxLocals = n ∧ (cx_s x).vm.findClass own = some (cx_m x).cls ∧ (∀ w ∈ Ts, w.before (cx_v x) (cx_s x) = true) ∧ ly_K y (cx_s x) ∧ ly_J y ∧ cx_l x = l ∧ cx_R x = R ∧ ly_N (cx_s x) ∧ ly_T y (cx_s x)
/-- a contract's end, told exactly -/
def q_E (y : Ly) (v : Option Value) (M : QM) : Array Value → State → Outcome → State → Prop := fun _ st oc t => oc = .returned v ∧ Rep y M t.heap ∧ va_F (ly_A y) st t
abbrev q_P (y : Ly) (args : List Value) (M : QM) : Array Value → State → Prop := va_Pc args (ly_W y M)
def VQ (x : Cx) (y : Ly) (v : Option Value) (M : QM) (ret : Option FieldType) : Prop :=
  cx_Q x = MQ (cx_b x) (q_E y v M) (cx_v x) (cx_s x) 0 0 (ly_A y) ∧ (cx_h x).sig.returnType = ret ∧ (cx_h x).locks = false
theorem q_met {l : Launch} {yn : MethodName} {ws ws' : List Cond} {rm : Room} {cc : ByteArray} {maxL : Nat} {ret : Option FieldType} {y : Ly} {args : List Value} {M M1 : QM} {v : Option Value}
    (hy : plainName yn.cls = true) (hw : ws = Cond.code yn cc maxL ret :: ws') (hJ : ly_J y) (hn : Nat.ble (lg_sl args).length maxL = true) (hrc : rm.cells = 0) (hrs : rm.slots = 0)
    (body : ∀ x : Cx, VK x l rm y maxL cc yn.cls ws → VQ x y v M1 ret → V x y maxL M 0 (lv_args 0 args) []) : Met l yn ws rm (q_P y args M) (q_E y v M1) 0 0 (ly_A y) := by
  refine Met.ofW (cc := cc) (maxL := maxL) (ret := ret) hy hw ?_
  intro p e s m as below meth c s₁ B hml hv
  obtain ⟨rfl, hR, hK, hN, hT⟩ := hv
  have hts := atoms_spec (ws := ws) B.pre
  have hown : s.vm.findClass yn.cls = some m.cls := findClass_of_methodNamed B.named
  have hlocks := B.notSynchronized
  rw [lg_entry_eq]
  exact body (p, l, e, rm, s, m, args.toArray, below, meth, c, _) ⟨B.exec, B.bytes, hml, hown, hts, hK, hJ, rfl, rfl, hN, hT⟩ ⟨rfl, B.returns, hlocks⟩ s.heap [] _ hR va_S.rf (lv_entry args (Nat.le_of_ble_eq_true hn))
section VROWS
variable {x : Cx} {l : Launch} {R : Room} {y : Ly} {n : Nat} {cc : ByteArray} {own : String} {Ts : List Cond} {M : QM} {pc : Nat} {lv lv' : List (Nat × Value)} {st : List Value}

theorem v_iconst (K : VK x l R y n cc own Ts) {k : Int} {v : Int32} (hd : decode cc pc = .ok (.iconst k, 1)) (hv : Int32.ofInt k = v) (kk : V x y n M (pc + 1) lv (.int v :: st)) : V x y n M pc lv st :=
  fun H locs ls hR hS hl => lv_iconst K.1 K.2.1 hd hv (kk H locs ls hR hS hl)
theorem v_bipush (K : VK x l R y n cc own Ts) {k : Int} {v : Int32} (hd : decode cc pc = .ok (.bipush k, 2)) (hv : (Int8.ofInt k).toInt32 = v) (kk : V x y n M (pc + 2) lv (.int v :: st)) : V x y n M pc lv st :=
  fun H locs ls hR hS hl => lv_bipush K.1 K.2.1 hd hv (kk H locs ls hR hS hl)
theorem v_sipush (K : VK x l R y n cc own Ts) {k : Int} {v : Int32} (hd : decode cc pc = .ok (.sipush k, 3)) (hv : (Int16.ofInt k).toInt32 = v) (kk : V x y n M (pc + 3) lv (.int v :: st)) : V x y n M pc lv st :=
  fun H locs ls hR hS hl => lv_sipush K.1 K.2.1 hd hv (kk H locs ls hR hS hl)
theorem v_lconst (K : VK x l R y n cc own Ts) {k : Fin 2} {v : Int64} (hd : decode cc pc = .ok (.lconst k, 1)) (hv : Int64.ofNat (k : Nat) = v) (kk : V x y n M (pc + 1) lv (.long v :: st)) : V x y n M pc lv st :=
  fun H locs ls hR hS hl => lv_lconst K.1 K.2.1 hd hv (kk H locs ls hR hS hl)
theorem v_null (K : VK x l R y n cc own Ts)  (hd : decode cc pc = .ok (.aconst_null, 1))  (kk : V x y n M (pc + 1) lv (.null :: st)) : V x y n M pc lv st :=
  fun H locs ls hR hS hl => lv_null K.1 K.2.1 hd (kk H locs ls hR hS hl)
theorem v_ldc2 (K : VK x l R y n cc own Ts) {k : Nat} {v : Int64} (hd : decode cc pc = .ok (.ldc2_w k, 3)) (hc : Cond.constantLong own k v ∈ Ts) (kk : V x y n M (pc + 3) lv (.long v :: st)) : V x y n M pc lv st :=
  fun H locs ls hR hS hl => lv_ldc2 K.1 K.2.1 K.2.2.2.1 (K.2.2.2.2.1 _ hc) hd (kk H locs ls hR hS hl)
theorem v_ldc_w (K : VK x l R y n cc own Ts) {k : Nat} {v : Int32} (hd : decode cc pc = .ok (.ldc_w k, 3)) (hc : Cond.constant own k v ∈ Ts) (kk : V x y n M (pc + 3) lv (.int v :: st)) : V x y n M pc lv st :=
  fun H locs ls hR hS hl => lv_ldcw K.1 K.2.1 K.2.2.2.1 (K.2.2.2.2.1 _ hc) hd (kk H locs ls hR hS hl)
theorem v_ldc (K : VK x l R y n cc own Ts) {k : Nat} {v : Int32} (hd : decode cc pc = .ok (.ldc k, 2)) (hc : Cond.constant own k v ∈ Ts) (kk : V x y n M (pc + 2) lv (.int v :: st)) : V x y n M pc lv st :=
  fun H locs ls hR hS hl => lv_ldc K.1 K.2.1 K.2.2.2.1 (K.2.2.2.2.1 _ hc) hd (kk H locs ls hR hS hl)
theorem v_iload_n (K : VK x l R y n cc own Ts) {k : Fin 4} {v : Int32} (hd : decode cc pc = .ok (.iload_n k, 1)) (p : Nat) (hv : lv[p]? = some ((k : Nat), .int v)) (kk : V x y n M (pc + 1) lv (.int v :: st)) : V x y n M pc lv st :=
  fun H locs ls hR hS hl => lv_iload_n K.1 K.2.1 hd rfl (lv_at hl p hv) (kk H locs ls hR hS hl)
theorem v_iload (K : VK x l R y n cc own Ts) {i : Nat} {v : Int32} (hd : decode cc pc = .ok (.iload i, 2)) (p : Nat) (hv : lv[p]? = some (i, .int v)) (kk : V x y n M (pc + 2) lv (.int v :: st)) : V x y n M pc lv st :=
  fun H locs ls hR hS hl => lv_iload K.1 K.2.1 hd (lv_at hl p hv) (kk H locs ls hR hS hl)
theorem v_lload_n (K : VK x l R y n cc own Ts) {k : Fin 4} {v : Int64} (hd : decode cc pc = .ok (.lload_n k, 1)) (p : Nat) (hv : lv[p]? = some ((k : Nat), .long v)) (kk : V x y n M (pc + 1) lv (.long v :: st)) : V x y n M pc lv st :=
  fun H locs ls hR hS hl => lv_lload_n K.1 K.2.1 hd rfl (lv_at hl p hv) (kk H locs ls hR hS hl)
theorem v_lload (K : VK x l R y n cc own Ts) {i : Nat} {v : Int64} (hd : decode cc pc = .ok (.lload i, 2)) (p : Nat) (hv : lv[p]? = some (i, .long v)) (kk : V x y n M (pc + 2) lv (.long v :: st)) : V x y n M pc lv st :=
  fun H locs ls hR hS hl => lv_lload K.1 K.2.1 hd (lv_at hl p hv) (kk H locs ls hR hS hl)
theorem v_aload_n (K : VK x l R y n cc own Ts) {k : Fin 4} {v : Nat} (hd : decode cc pc = .ok (.aload_n k, 1)) (p : Nat) (hv : lv[p]? = some ((k : Nat), .ref v)) (kk : V x y n M (pc + 1) lv (.ref v :: st)) : V x y n M pc lv st :=
  fun H locs ls hR hS hl => lv_aload_n K.1 K.2.1 hd rfl (lv_at hl p hv) (kk H locs ls hR hS hl)
theorem v_aload (K : VK x l R y n cc own Ts) {i : Nat} {v : Nat} (hd : decode cc pc = .ok (.aload i, 2)) (p : Nat) (hv : lv[p]? = some (i, .ref v)) (kk : V x y n M (pc + 2) lv (.ref v :: st)) : V x y n M pc lv st :=
  fun H locs ls hR hS hl => lv_aload K.1 K.2.1 hd (lv_at hl p hv) (kk H locs ls hR hS hl)
theorem v_istore_n (K : VK x l R y n cc own Ts) {k : Fin 4} {v : Int32} (hd : decode cc pc = .ok (.istore_n k, 1)) (i : Nat) (hi : (k : Nat) = i) (hn : i < n) (hl' : (i, Value.int v) :: lv.filter (fun q => !(q.1 == i) && !(q.1 + 1 == i && q.2.category == 2)) = lv') (kk : V x y n M (pc + 1) lv' st) : V x y n M pc lv (.int v :: st) :=
  fun H locs ls hR hS hl => lv_istore_n K.1 K.2.1 hd hi hl hn hl' (fun ls' h' => kk H locs ls' hR hS h')
theorem v_istore (K : VK x l R y n cc own Ts) {v : Int32} (i : Nat) (hd : decode cc pc = .ok (.istore i, 2)) (hn : i < n) (hl' : (i, Value.int v) :: lv.filter (fun q => !(q.1 == i) && !(q.1 + 1 == i && q.2.category == 2)) = lv') (kk : V x y n M (pc + 2) lv' st) : V x y n M pc lv (.int v :: st) :=
  fun H locs ls hR hS hl => lv_istore K.1 K.2.1 hd hl hn hl' (fun ls' h' => kk H locs ls' hR hS h')
theorem v_astore_n (K : VK x l R y n cc own Ts) {k : Fin 4} {v : Nat} (hd : decode cc pc = .ok (.astore_n k, 1)) (i : Nat) (hi : (k : Nat) = i) (hn : i < n) (hl' : (i, Value.ref v) :: lv.filter (fun q => !(q.1 == i) && !(q.1 + 1 == i && q.2.category == 2)) = lv') (kk : V x y n M (pc + 1) lv' st) : V x y n M pc lv (.ref v :: st) :=
  fun H locs ls hR hS hl => lv_astore_n K.1 K.2.1 hd hi hl hn hl' (fun ls' h' => kk H locs ls' hR hS h')
theorem v_astore (K : VK x l R y n cc own Ts) {v : Nat} (i : Nat) (hd : decode cc pc = .ok (.astore i, 2)) (hn : i < n) (hl' : (i, Value.ref v) :: lv.filter (fun q => !(q.1 == i) && !(q.1 + 1 == i && q.2.category == 2)) = lv') (kk : V x y n M (pc + 2) lv' st) : V x y n M pc lv (.ref v :: st) :=
  fun H locs ls hR hS hl => lv_astore K.1 K.2.1 hd hl hn hl' (fun ls' h' => kk H locs ls' hR hS h')
theorem v_lstore_n (K : VK x l R y n cc own Ts) {k : Fin 4} {v : Int64} (hd : decode cc pc = .ok (.lstore_n k, 1)) (i : Nat) (hi : (k : Nat) = i) (hn : i + 1 < n) (hl' : (i, Value.long v) :: lv.filter (fun q => !(q.1 == i) && (!(q.1 == i + 1) && !(q.1 + 1 == i && q.2.category == 2))) = lv') (kk : V x y n M (pc + 1) lv' st) : V x y n M pc lv (.long v :: st) :=
  fun H locs ls hR hS hl => lv_lstore_n K.1 K.2.1 hd hi hl hn hl' (fun ls' h' => kk H locs ls' hR hS h')
theorem v_lstore (K : VK x l R y n cc own Ts) {v : Int64} (i : Nat) (hd : decode cc pc = .ok (.lstore i, 2)) (hn : i + 1 < n) (hl' : (i, Value.long v) :: lv.filter (fun q => !(q.1 == i) && (!(q.1 == i + 1) && !(q.1 + 1 == i && q.2.category == 2))) = lv') (kk : V x y n M (pc + 2) lv' st) : V x y n M pc lv (.long v :: st) :=
  fun H locs ls hR hS hl => lv_lstore K.1 K.2.1 hd hl hn hl' (fun ls' h' => kk H locs ls' hR hS h')
theorem v_astore_nN (K : VK x l R y n cc own Ts) {k : Fin 4} (hd : decode cc pc = .ok (.astore_n k, 1)) (i : Nat) (hi : (k : Nat) = i) (hn : i < n) (hl' : (i, Value.null) :: lv.filter (fun q => !(q.1 == i) && !(q.1 + 1 == i && q.2.category == 2)) = lv') (kk : V x y n M (pc + 1) lv' st) : V x y n M pc lv (.null :: st) :=
  fun H locs ls hR hS hl => lv_astore_nN K.1 K.2.1 hd hi hl hn hl' (fun ls' h' => kk H locs ls' hR hS h')
theorem v_astoreN (K : VK x l R y n cc own Ts) (i : Nat) (hd : decode cc pc = .ok (.astore i, 2)) (hn : i < n) (hl' : (i, Value.null) :: lv.filter (fun q => !(q.1 == i) && !(q.1 + 1 == i && q.2.category == 2)) = lv') (kk : V x y n M (pc + 2) lv' st) : V x y n M pc lv (.null :: st) :=
  fun H locs ls hR hS hl => lv_astoreN K.1 K.2.1 hd hl hn hl' (fun ls' h' => kk H locs ls' hR hS h')
theorem v_iinc (K : VK x l R y n cc own Ts) {i : Nat} {k : Int} {v v1 : Int32} (hd : decode cc pc = .ok (.iinc i k, 3)) (p : Nat) (hv : lv[p]? = some (i, .int v)) (h1 : v + Int32.ofInt k = v1) (hn : i < n) (hl' : (i, Value.int v1) :: lv.filter (fun q => !(q.1 == i) && !(q.1 + 1 == i && q.2.category == 2)) = lv') (kk : V x y n M (pc + 3) lv' st) : V x y n M pc lv st :=
  fun H locs ls hR hS hl => lv_iinc K.1 K.2.1 hd hl hv h1 hn hl' (fun ls' h' => kk H locs ls' hR hS h')
theorem v_iadd (K : VK x l R y n cc own Ts) {v v1 : Int32} (hd : decode cc pc = .ok (.iadd, 1)) (kk : V x y n M (pc + 1) lv (.int (v + v1) :: st)) : V x y n M pc lv (.int v1 :: .int v :: st) :=
  fun H locs ls hR hS hl => lv_iadd K.1 K.2.1 hd (kk H locs ls hR hS hl)
theorem v_isub (K : VK x l R y n cc own Ts) {v v1 : Int32} (hd : decode cc pc = .ok (.isub, 1)) (kk : V x y n M (pc + 1) lv (.int (v - v1) :: st)) : V x y n M pc lv (.int v1 :: .int v :: st) :=
  fun H locs ls hR hS hl => lv_isub K.1 K.2.1 hd (kk H locs ls hR hS hl)
theorem v_imul (K : VK x l R y n cc own Ts) {v v1 : Int32} (hd : decode cc pc = .ok (.imul, 1)) (kk : V x y n M (pc + 1) lv (.int (v * v1) :: st)) : V x y n M pc lv (.int v1 :: .int v :: st) :=
  fun H locs ls hR hS hl => lv_imul K.1 K.2.1 hd (kk H locs ls hR hS hl)
theorem v_iand (K : VK x l R y n cc own Ts) {v v1 : Int32} (hd : decode cc pc = .ok (.iand, 1)) (kk : V x y n M (pc + 1) lv (.int (v &&& v1) :: st)) : V x y n M pc lv (.int v1 :: .int v :: st) :=
  fun H locs ls hR hS hl => lv_iand K.1 K.2.1 hd (kk H locs ls hR hS hl)
theorem v_ior (K : VK x l R y n cc own Ts) {v v1 : Int32} (hd : decode cc pc = .ok (.ior, 1)) (kk : V x y n M (pc + 1) lv (.int (v ||| v1) :: st)) : V x y n M pc lv (.int v1 :: .int v :: st) :=
  fun H locs ls hR hS hl => lv_ior K.1 K.2.1 hd (kk H locs ls hR hS hl)
theorem v_ixor (K : VK x l R y n cc own Ts) {v v1 : Int32} (hd : decode cc pc = .ok (.ixor, 1)) (kk : V x y n M (pc + 1) lv (.int (v ^^^ v1) :: st)) : V x y n M pc lv (.int v1 :: .int v :: st) :=
  fun H locs ls hR hS hl => lv_ixor K.1 K.2.1 hd (kk H locs ls hR hS hl)
theorem v_ishl (K : VK x l R y n cc own Ts) {v v1 : Int32} (hd : decode cc pc = .ok (.ishl, 1)) (kk : V x y n M (pc + 1) lv (.int (v <<< (v1 &&& 31)) :: st)) : V x y n M pc lv (.int v1 :: .int v :: st) :=
  fun H locs ls hR hS hl => lv_ishl K.1 K.2.1 hd (kk H locs ls hR hS hl)
theorem v_ishr (K : VK x l R y n cc own Ts) {v v1 : Int32} (hd : decode cc pc = .ok (.ishr, 1)) (kk : V x y n M (pc + 1) lv (.int (v >>> (v1 &&& 31)) :: st)) : V x y n M pc lv (.int v1 :: .int v :: st) :=
  fun H locs ls hR hS hl => lv_ishr K.1 K.2.1 hd (kk H locs ls hR hS hl)
theorem v_idiv (K : VK x l R y n cc own Ts) {v v1 : Int32} (hd : decode cc pc = .ok (.idiv, 1)) (hne : ¬ v1 = 0) (kk : V x y n M (pc + 1) lv (.int (v / v1) :: st)) : V x y n M pc lv (.int v1 :: .int v :: st) :=
  fun H locs ls hR hS hl => lv_idiv K.1 K.2.1 hd hne (kk H locs ls hR hS hl)
theorem v_irem (K : VK x l R y n cc own Ts) {v v1 : Int32} (hd : decode cc pc = .ok (.irem, 1)) (hne : ¬ v1 = 0) (kk : V x y n M (pc + 1) lv (.int (v - v / v1 * v1) :: st)) : V x y n M pc lv (.int v1 :: .int v :: st) :=
  fun H locs ls hR hS hl => lv_irem K.1 K.2.1 hd hne (kk H locs ls hR hS hl)
theorem v_ineg (K : VK x l R y n cc own Ts) {v : Int32} (hd : decode cc pc = .ok (.ineg, 1)) (kk : V x y n M (pc + 1) lv (.int (-v) :: st)) : V x y n M pc lv (.int v :: st) :=
  fun H locs ls hR hS hl => lv_ineg K.1 K.2.1 hd (kk H locs ls hR hS hl)
theorem v_i2l (K : VK x l R y n cc own Ts) {v : Int32} (hd : decode cc pc = .ok (.i2l, 1)) (kk : V x y n M (pc + 1) lv (.long v.toInt64 :: st)) : V x y n M pc lv (.int v :: st) :=
  fun H locs ls hR hS hl => lv_i2l K.1 K.2.1 hd rfl (kk H locs ls hR hS hl)
theorem v_i2b (K : VK x l R y n cc own Ts) {v : Int32} (hd : decode cc pc = .ok (.i2b, 1)) (kk : V x y n M (pc + 1) lv (.int v.toInt8.toInt32 :: st)) : V x y n M pc lv (.int v :: st) :=
  fun H locs ls hR hS hl => lv_i2b K.1 K.2.1 hd rfl (kk H locs ls hR hS hl)
theorem v_ladd (K : VK x l R y n cc own Ts) {v v1 : Int64} (hd : decode cc pc = .ok (.ladd, 1)) (kk : V x y n M (pc + 1) lv (.long (v + v1) :: st)) : V x y n M pc lv (.long v1 :: .long v :: st) :=
  fun H locs ls hR hS hl => lv_ladd K.1 K.2.1 hd (kk H locs ls hR hS hl)
theorem v_lor (K : VK x l R y n cc own Ts) {v v1 : Int64} (hd : decode cc pc = .ok (.lor, 1)) (kk : V x y n M (pc + 1) lv (.long (v ||| v1) :: st)) : V x y n M pc lv (.long v1 :: .long v :: st) :=
  fun H locs ls hR hS hl => lv_lor K.1 K.2.1 hd (kk H locs ls hR hS hl)
theorem v_lshl (K : VK x l R y n cc own Ts) {v : Int64} {k : Int32} (hd : decode cc pc = .ok (.lshl, 1)) (kk : V x y n M (pc + 1) lv (.long (v <<< (k.toInt64 &&& 63)) :: st)) : V x y n M pc lv (.int k :: .long v :: st) :=
  fun H locs ls hR hS hl => lv_lshl K.1 K.2.1 hd rfl (kk H locs ls hR hS hl)
theorem v_lcmp (K : VK x l R y n cc own Ts) {v v1 : Int64} (hd : decode cc pc = .ok (.lcmp, 1)) (kk : V x y n M (pc + 1) lv (.int (lg_cmp v v1) :: st)) : V x y n M pc lv (.long v1 :: .long v :: st) :=
  fun H locs ls hR hS hl => W.lcmp K.1 K.2.1 hd (kk H locs ls hR hS hl)
theorem v_dup (K : VK x l R y n cc own Ts) {v : Value} (hd : decode cc pc = .ok (.dup, 1)) (hc : v.category = 1) (kk : V x y n M (pc + 1) lv (v :: v :: st)) : V x y n M pc lv (v :: st) :=
  fun H locs ls hR hS hl => lv_dup K.1 K.2.1 hd hc (kk H locs ls hR hS hl)
theorem v_pop (K : VK x l R y n cc own Ts) {v : Value} (hd : decode cc pc = .ok (.pop, 1)) (hc : v.category = 1) (kk : V x y n M (pc + 1) lv st) : V x y n M pc lv (v :: st) :=
  fun H locs ls hR hS hl => lv_pop K.1 K.2.1 hd hc (kk H locs ls hR hS hl)
theorem v_dup2 (K : VK x l R y n cc own Ts) {v v1 : Value} (hd : decode cc pc = .ok (.dup2, 1)) (hc : v.category = 1) (hc1 : v1.category = 1) (kk : V x y n M (pc + 1) lv (v :: v1 :: v :: v1 :: st)) : V x y n M pc lv (v :: v1 :: st) :=
  fun H locs ls hR hS hl => lv_dup2_11 K.1 K.2.1 hd hc hc1 (kk H locs ls hR hS hl)
theorem v_icmp_eq (K : VK x l R y n cc own Ts) {v v1 : Int32} {off : Int} (tgt : Nat) (hd : decode cc pc = .ok (.if_icmp .eq off, 3)) (ht : (pc : Int) + off = (tgt : Int)) {α : Type} {A B : Option α} {z : α} (hF : (if v = v1 then A else B) = some z) (kt : v = v1 → A = some z → V x y n M tgt lv st) (kf : ¬ (v = v1) → B = some z → V x y n M (pc + 3) lv st) : V x y n M pc lv (.int v1 :: .int v :: st) :=
  fun H locs ls hR hS hl => lv_icmp_eq K.1 K.2.1 hd ht (fun h => kt h (by rw [if_pos h] at hF; exact hF) H locs ls hR hS hl) (fun h => kf h (by rw [if_neg h] at hF; exact hF) H locs ls hR hS hl)
theorem v_if_eq (K : VK x l R y n cc own Ts) {v : Int32} {off : Int} (tgt : Nat) (hd : decode cc pc = .ok (.ifCond .eq off, 3)) (ht : (pc : Int) + off = (tgt : Int)) {α : Type} {A B : Option α} {z : α} (hF : (if v = 0 then A else B) = some z) (kt : v = 0 → A = some z → V x y n M tgt lv st) (kf : ¬ (v = 0) → B = some z → V x y n M (pc + 3) lv st) : V x y n M pc lv (.int v :: st) :=
  fun H locs ls hR hS hl => lv_if_eq K.1 K.2.1 hd ht (fun h => kt h (by rw [if_pos h] at hF; exact hF) H locs ls hR hS hl) (fun h => kf h (by rw [if_neg h] at hF; exact hF) H locs ls hR hS hl)
theorem v_icmp_ne (K : VK x l R y n cc own Ts) {v v1 : Int32} {off : Int} (tgt : Nat) (hd : decode cc pc = .ok (.if_icmp .ne off, 3)) (ht : (pc : Int) + off = (tgt : Int)) {α : Type} {A B : Option α} {z : α} (hF : (if v ≠ v1 then A else B) = some z) (kt : v ≠ v1 → A = some z → V x y n M tgt lv st) (kf : v = v1 → B = some z → V x y n M (pc + 3) lv st) : V x y n M pc lv (.int v1 :: .int v :: st) :=
  fun H locs ls hR hS hl => lv_icmp_ne K.1 K.2.1 hd ht (fun h => kt h (by rw [if_pos h] at hF; exact hF) H locs ls hR hS hl) (fun h => kf h (by rw [if_neg (fun k => k h)] at hF; exact hF) H locs ls hR hS hl)
theorem v_if_ne (K : VK x l R y n cc own Ts) {v : Int32} {off : Int} (tgt : Nat) (hd : decode cc pc = .ok (.ifCond .ne off, 3)) (ht : (pc : Int) + off = (tgt : Int)) {α : Type} {A B : Option α} {z : α} (hF : (if v ≠ 0 then A else B) = some z) (kt : v ≠ 0 → A = some z → V x y n M tgt lv st) (kf : v = 0 → B = some z → V x y n M (pc + 3) lv st) : V x y n M pc lv (.int v :: st) :=
  fun H locs ls hR hS hl => lv_if_ne K.1 K.2.1 hd ht (fun h => kt h (by rw [if_pos h] at hF; exact hF) H locs ls hR hS hl) (fun h => kf h (by rw [if_neg (fun k => k h)] at hF; exact hF) H locs ls hR hS hl)
theorem v_icmp_lt (K : VK x l R y n cc own Ts) {v v1 : Int32} {off : Int} (tgt : Nat) (hd : decode cc pc = .ok (.if_icmp .lt off, 3)) (ht : (pc : Int) + off = (tgt : Int)) {α : Type} {A B : Option α} {z : α} (hF : (if v < v1 then A else B) = some z) (kt : v < v1 → A = some z → V x y n M tgt lv st) (kf : ¬ (v < v1) → B = some z → V x y n M (pc + 3) lv st) : V x y n M pc lv (.int v1 :: .int v :: st) :=
  fun H locs ls hR hS hl => lv_icmp_lt K.1 K.2.1 hd ht (fun h => kt h (by rw [if_pos h] at hF; exact hF) H locs ls hR hS hl) (fun h => kf h (by rw [if_neg h] at hF; exact hF) H locs ls hR hS hl)
theorem v_if_lt (K : VK x l R y n cc own Ts) {v : Int32} {off : Int} (tgt : Nat) (hd : decode cc pc = .ok (.ifCond .lt off, 3)) (ht : (pc : Int) + off = (tgt : Int)) {α : Type} {A B : Option α} {z : α} (hF : (if v < 0 then A else B) = some z) (kt : v < 0 → A = some z → V x y n M tgt lv st) (kf : ¬ (v < 0) → B = some z → V x y n M (pc + 3) lv st) : V x y n M pc lv (.int v :: st) :=
  fun H locs ls hR hS hl => lv_if_lt K.1 K.2.1 hd ht (fun h => kt h (by rw [if_pos h] at hF; exact hF) H locs ls hR hS hl) (fun h => kf h (by rw [if_neg h] at hF; exact hF) H locs ls hR hS hl)
theorem v_icmp_ge (K : VK x l R y n cc own Ts) {v v1 : Int32} {off : Int} (tgt : Nat) (hd : decode cc pc = .ok (.if_icmp .ge off, 3)) (ht : (pc : Int) + off = (tgt : Int)) {α : Type} {A B : Option α} {z : α} (hF : (if v1 ≤ v then A else B) = some z) (kt : v1 ≤ v → A = some z → V x y n M tgt lv st) (kf : ¬ (v1 ≤ v) → B = some z → V x y n M (pc + 3) lv st) : V x y n M pc lv (.int v1 :: .int v :: st) :=
  fun H locs ls hR hS hl => lv_icmp_ge K.1 K.2.1 hd ht (fun h => kt h (by rw [if_pos h] at hF; exact hF) H locs ls hR hS hl) (fun h => kf h (by rw [if_neg h] at hF; exact hF) H locs ls hR hS hl)
theorem v_if_ge (K : VK x l R y n cc own Ts) {v : Int32} {off : Int} (tgt : Nat) (hd : decode cc pc = .ok (.ifCond .ge off, 3)) (ht : (pc : Int) + off = (tgt : Int)) {α : Type} {A B : Option α} {z : α} (hF : (if 0 ≤ v then A else B) = some z) (kt : 0 ≤ v → A = some z → V x y n M tgt lv st) (kf : ¬ (0 ≤ v) → B = some z → V x y n M (pc + 3) lv st) : V x y n M pc lv (.int v :: st) :=
  fun H locs ls hR hS hl => lv_if_ge K.1 K.2.1 hd ht (fun h => kt h (by rw [if_pos h] at hF; exact hF) H locs ls hR hS hl) (fun h => kf h (by rw [if_neg h] at hF; exact hF) H locs ls hR hS hl)
theorem v_icmp_gt (K : VK x l R y n cc own Ts) {v v1 : Int32} {off : Int} (tgt : Nat) (hd : decode cc pc = .ok (.if_icmp .gt off, 3)) (ht : (pc : Int) + off = (tgt : Int)) {α : Type} {A B : Option α} {z : α} (hF : (if v1 < v then A else B) = some z) (kt : v1 < v → A = some z → V x y n M tgt lv st) (kf : ¬ (v1 < v) → B = some z → V x y n M (pc + 3) lv st) : V x y n M pc lv (.int v1 :: .int v :: st) :=
  fun H locs ls hR hS hl => lv_icmp_gt K.1 K.2.1 hd ht (fun h => kt h (by rw [if_pos h] at hF; exact hF) H locs ls hR hS hl) (fun h => kf h (by rw [if_neg h] at hF; exact hF) H locs ls hR hS hl)
theorem v_if_gt (K : VK x l R y n cc own Ts) {v : Int32} {off : Int} (tgt : Nat) (hd : decode cc pc = .ok (.ifCond .gt off, 3)) (ht : (pc : Int) + off = (tgt : Int)) {α : Type} {A B : Option α} {z : α} (hF : (if 0 < v then A else B) = some z) (kt : 0 < v → A = some z → V x y n M tgt lv st) (kf : ¬ (0 < v) → B = some z → V x y n M (pc + 3) lv st) : V x y n M pc lv (.int v :: st) :=
  fun H locs ls hR hS hl => lv_if_gt K.1 K.2.1 hd ht (fun h => kt h (by rw [if_pos h] at hF; exact hF) H locs ls hR hS hl) (fun h => kf h (by rw [if_neg h] at hF; exact hF) H locs ls hR hS hl)
theorem v_icmp_le (K : VK x l R y n cc own Ts) {v v1 : Int32} {off : Int} (tgt : Nat) (hd : decode cc pc = .ok (.if_icmp .le off, 3)) (ht : (pc : Int) + off = (tgt : Int)) {α : Type} {A B : Option α} {z : α} (hF : (if v ≤ v1 then A else B) = some z) (kt : v ≤ v1 → A = some z → V x y n M tgt lv st) (kf : ¬ (v ≤ v1) → B = some z → V x y n M (pc + 3) lv st) : V x y n M pc lv (.int v1 :: .int v :: st) :=
  fun H locs ls hR hS hl => lv_icmp_le K.1 K.2.1 hd ht (fun h => kt h (by rw [if_pos h] at hF; exact hF) H locs ls hR hS hl) (fun h => kf h (by rw [if_neg h] at hF; exact hF) H locs ls hR hS hl)
theorem v_if_le (K : VK x l R y n cc own Ts) {v : Int32} {off : Int} (tgt : Nat) (hd : decode cc pc = .ok (.ifCond .le off, 3)) (ht : (pc : Int) + off = (tgt : Int)) {α : Type} {A B : Option α} {z : α} (hF : (if v ≤ 0 then A else B) = some z) (kt : v ≤ 0 → A = some z → V x y n M tgt lv st) (kf : ¬ (v ≤ 0) → B = some z → V x y n M (pc + 3) lv st) : V x y n M pc lv (.int v :: st) :=
  fun H locs ls hR hS hl => lv_if_le K.1 K.2.1 hd ht (fun h => kt h (by rw [if_pos h] at hF; exact hF) H locs ls hR hS hl) (fun h => kf h (by rw [if_neg h] at hF; exact hF) H locs ls hR hS hl)
theorem v_goto (K : VK x l R y n cc own Ts) {off : Int} (tgt : Nat) (hd : decode cc pc = .ok (.goto off, 3)) (ht : (pc : Int) + off = (tgt : Int)) (kk : V x y n M tgt lv st) : V x y n M pc lv st :=
  fun H locs ls hR hS hl => lv_goto K.1 K.2.1 hd ht (kk H locs ls hR hS hl)
theorem v_ifnonnull (K : VK x l R y n cc own Ts) {v : Nat} {off : Int} (tgt : Nat) (hd : decode cc pc = .ok (.ifnonnull off, 3)) (ht : (pc : Int) + off = (tgt : Int)) (kk : V x y n M tgt lv st) : V x y n M pc lv (.ref v :: st) :=
  fun H locs ls hR hS hl => lv_ifnonnull K.1 K.2.1 hd ht (kk H locs ls hR hS hl)
theorem v_ifnonnullN (K : VK x l R y n cc own Ts) {off : Int} (hd : decode cc pc = .ok (.ifnonnull off, 3)) (kk : V x y n M (pc + 3) lv st) : V x y n M pc lv (.null :: st) :=
  fun H locs ls hR hS hl => lv_ifnonnullN K.1 K.2.1 hd (kk H locs ls hR hS hl)
theorem v_ifnull (K : VK x l R y n cc own Ts) {v : Nat} {off : Int} (hd : decode cc pc = .ok (.ifnull off, 3)) (kk : V x y n M (pc + 3) lv st) : V x y n M pc lv (.ref v :: st) :=
  fun H locs ls hR hS hl => lv_ifnull K.1 K.2.1 hd (kk H locs ls hR hS hl)
theorem v_ifnullN (K : VK x l R y n cc own Ts) {off : Int} (tgt : Nat) (hd : decode cc pc = .ok (.ifnull off, 3)) (ht : (pc : Int) + off = (tgt : Int)) (kk : V x y n M tgt lv st) : V x y n M pc lv (.null :: st) :=
  fun H locs ls hR hS hl => lv_ifnullN K.1 K.2.1 hd ht (kk H locs ls hR hS hl)
/-- fewer listed locals, by their places -/
theorem v_sub (ks : List Nat) (h : lv_pick lv ks = lv') (kk : V x y n M pc lv' st) : V x y n M pc lv st :=
  fun H locs ls hR hS hl => kk H locs ls hR hS (lv_sub hl ks h)
theorem v_tab (K : VK x l R y n cc own Ts) {dflt lo hi : Int} {offs : Array Int} {len : Nat} {v : Int32} {off : Int} (tgt : Nat) (hd : decode cc pc = .ok (.tableswitch dflt lo hi offs, len)) (h1 : ¬ v.toInt < lo) (h2 : ¬ hi < v.toInt) (ho : offs[(v.toInt - lo).toNat]? = some off) (ht : (pc : Int) + off = (tgt : Int)) (kk : V x y n M tgt lv st) : V x y n M pc lv (.int v :: st) :=
  fun H locs ls hR hS hl => lv_tableIn K.1 K.2.1 hd h1 h2 ho ht (kk H locs ls hR hS hl)
theorem v_tabN (K : VK x l R y n cc own Ts) {dflt lo hi : Int} {offs : Array Int} {len : Nat} {v : Int32} (tgt : Nat) (hd : decode cc pc = .ok (.tableswitch dflt lo hi offs, len)) (h : v.toInt < lo ∨ hi < v.toInt) (ht : (pc : Int) + dflt = (tgt : Int)) (kk : V x y n M tgt lv st) : V x y n M pc lv (.int v :: st) :=
  fun H locs ls hR hS hl => lv_tableOut K.1 K.2.1 hd h ht (kk H locs ls hR hS hl)
theorem v_look (K : VK x l R y n cc own Ts) {dflt : Int} {ps : Array (Int × Int)} {len : Nat} {v : Int32} {off : Int} (tgt : Nat) (hd : decode cc pc = .ok (.lookupswitch dflt ps, len)) (hp : (ps.toList.zip (ps.toList.drop 1)).all (fun (a, next) => a.1 < next.1) = true) (ho : Op.lookupswitch.offset ps.toList dflt v.toInt = off) (ht : (pc : Int) + off = (tgt : Int)) (kk : V x y n M tgt lv st) : V x y n M pc lv (.int v :: st) :=
  fun H locs ls hR hS hl => lv_lookup K.1 K.2.1 hd hp ho ht (kk H locs ls hR hS hl)
/-! fields -/
theorem v_getV (K : VK x l R y n cc own Ts) {o c j N idx : Nat} {C : String} {T : u_T} {v : Value} (hk : kls o = c) (hok : okc y c) (hc : vwCl[c]? = some (C, T, N)) (hN : nfl c = N) (hin : ∀ w ∈ u_ws C T N, w ∈ Ts) (hj : j < N) (hlink : Cond.fieldLink own idx (T j).1 (T j).2.1 (T j).2.2.1 ∈ Ts) (hv : ly_f y M o j = v) (hd : decode cc pc = .ok (.getfield idx, 3))
    (kk : V x y n M (pc + 3) lv (v :: st)) : V x y n M pc lv (.ref (ly_o y o) :: st) := by
  intro H locs ls hR hS hl
  obtain ⟨cell, q1, q2, q3, q4⟩ := hR.1 o (hok o hk)
  obtain ⟨hS1, hfc, kC, hkC, hkind⟩ := K.2.2.2.2.2.1.1 c _ hc
  obtain ⟨cf, kf, fi, f, hi, hsl⟩ := hS1 j hj
  refine W.getf K.1 K.2.1 K.2.2.2.1 (K.2.2.2.2.1 _ hlink) hi (u_facts hfc hkC (u_lays K.2.2.2.2.1 hin hj) hi).1 q1 (by rw [q3]; exact fun h => by cases h) (v := v) ?_ rfl rfl hd (kk H locs ls hR hS hl)
  rw [hsl, ← hv, ← q4 j (by rw [hk, hN]; exact hj), hk]
theorem v_putV (K : VK x l R y n cc own Ts) {o c j N idx : Nat} {C : String} {T : u_T} {ty : FieldType} {v : Value} {M1 : QM} (hk : kls o = c) (hok : okc y c) (hc : vwCl[c]? = some (C, T, N)) (hN : nfl c = N) (hin : ∀ w ∈ u_ws C T N, w ∈ Ts) (ty0 : Nat → FieldType) (hty : ∀ k, k < N → parseFieldDescriptor (T k).2.2.1 = some (ty0 k)) (hnm : ∀ a, a < N → ∀ b, b < N → a ≠ b → (T a).2.1 ≠ (T b).2.1) (hj : j < N) (hlink : Cond.fieldLink own idx (T j).1 (T j).2.1 (T j).2.2.1 ∈ Ts) (hfin : (T j).2.2.2 = false) (hdt : parseFieldDescriptor (T j).2.2.1 = some ty) (hn : narrow ty v = v) (hfit : fits ty v = true)
    (hM : ∀ H H1 : Heap, Rep y M H → t_OB (ly_o y o) (y.1.1 (kls o)) (nfl (kls o)) (y.1.2 (kls o)) H1 (updV (ly_f y M o) j v) → (∀ q : Nat, q ≠ ly_o y o → H1[q]? = H[q]?) → Rep y M1 H1)
    (hd : decode cc pc = .ok (.putfield idx, 3)) (kk : V x y n M1 (pc + 3) lv st) : V x y n M pc lv (v :: .ref (ly_o y o) :: st) := by
  intro H locs ls hR hS hl
  have hap := va_apart (own := own) K.2.2.2.2.1 hin ty0 hty hnm K.2.2.2.2.2.1 hc
  obtain ⟨cell, q1, q2, q3, q4⟩ := hR.1 o (hok o hk)
  obtain ⟨hS1, hfc, kC, hkC, hkind⟩ := K.2.2.2.2.2.1.1 c _ hc
  obtain ⟨cf, kf, fi, f, hi, hsl⟩ := hS1 j hj
  have hlay := K.2.2.2.2.1 _ (hin _ (u_in_lay hj))
  unfold u_lay at hlay
  rw [if_neg (by rw [hfin]; decide)] at hlay
  have hst := (u_facts hfc hkC (u_lays K.2.2.2.2.1 hin hj) hi).1
  have h6 := u_store hfc hkC hkind hlay hi hdt hn hfit
  have q4' : ∀ k, k < N → cell.slots[y.1.2 c k]? = some (ly_f y M o k) := fun k hk2 => by rw [← q4 k (by rw [hk, hN]; exact hk2), hk]
  refine W.putK K.1 K.2.1 (f := f) ⟨K.2.2.2.1, K.2.2.2.2.1 _ hlink, ⟨_, _, _, hi⟩, hst⟩ (by rw [q2, hk]; exact h6) q1 q3 (by rw [hsl]; exact k2_hasslot (q4' j hj)) rfl rfl hd fun H' e1 e2 e3 => ?_
  rw [hsl] at e1 ⊢
  refine kk H' _ ls (hM H H' hR ?_ e3) (hS.put e2 e3 (Or.inl ⟨o, hok o hk, rfl⟩)) hl
  refine ⟨_, e1, q2, q3, ?_⟩
  rw [hk, hN]
  exact t_set q4' hap hj v
theorem v_putI (K : VK x l R y n cc own Ts) {o c j N idx : Nat} {C : String} {T : u_T} {v : Int32} (hk : kls o = c) (hok : okc y c) (hc : vwCl[c]? = some (C, T, N)) (hN : nfl c = N) (hin : ∀ w ∈ u_ws C T N, w ∈ Ts) (ty0 : Nat → FieldType) (hty : ∀ k, k < N → parseFieldDescriptor (T k).2.2.1 = some (ty0 k)) (hnm : ∀ a, a < N → ∀ b, b < N → a ≠ b → (T a).2.1 ≠ (T b).2.1) (hj : j < N) (hf : fk c j = 0) (hlink : Cond.fieldLink own idx (T j).1 (T j).2.1 (T j).2.2.1 ∈ Ts) (hfin : (T j).2.2.2 = false) {ty : FieldType} (hdt : parseFieldDescriptor (T j).2.2.1 = some ty) (hn : narrow ty (.int v) = .int v) (hfit : fits ty (.int v) = true)
    (hd : decode cc pc = .ok (.putfield idx, 3)) (kk : V x y n (p_i M o j v) (pc + 3) lv st) : V x y n M pc lv (.int v :: .ref (ly_o y o) :: st) :=
  v_putV K hk hok hc hN hin ty0 hty hnm hj hlink hfin hdt hn hfit (fun H H1 h h1 h2 => rep_pi K.2.2.2.2.2.2.1 h (hok o hk) (by rw [hk]; exact hf) h1 h2) hd kk
theorem v_putR (K : VK x l R y n cc own Ts) {o c j N idx v : Nat} {C : String} {T : u_T} (hv : kls v = 2) (hk : kls o = c) (hok : okc y c) (hc : vwCl[c]? = some (C, T, N)) (hN : nfl c = N) (hin : ∀ w ∈ u_ws C T N, w ∈ Ts) (ty0 : Nat → FieldType) (hty : ∀ k, k < N → parseFieldDescriptor (T k).2.2.1 = some (ty0 k)) (hnm : ∀ a, a < N → ∀ b, b < N → a ≠ b → (T a).2.1 ≠ (T b).2.1) (hj : j < N) (hf : fk c j = 3) (hlink : Cond.fieldLink own idx (T j).1 (T j).2.1 (T j).2.2.1 ∈ Ts) (hfin : (T j).2.2.2 = false) {ty : FieldType} (hdt : parseFieldDescriptor (T j).2.2.1 = some ty) (hn : narrow ty (.ref (ly_o y v)) = .ref (ly_o y v)) (hfit : fits ty (.ref (ly_o y v)) = true)
    (hd : decode cc pc = .ok (.putfield idx, 3)) (kk : V x y n (p_r M o j v) (pc + 3) lv st) : V x y n M pc lv (.ref (ly_o y v) :: .ref (ly_o y o) :: st) :=
  v_putV K hk hok hc hN hin ty0 hty hnm hj hlink hfin hdt hn hfit (fun H H1 h h1 h2 => rep_pr K.2.2.2.2.2.2.1 h (hok o hk) (by rw [hk]; exact hf) hv h1 h2) hd kk
/-- what an object's changing field holds -/
theorem v_known {o c j : Nat} (hk : kls o = c) (hok : okc y c) (hj : j < nfl c) (hf : fk c j = 3) (kk : kls (q_r M o j) = 2 → V x y n M pc lv st) : V x y n M pc lv st :=
  fun H locs ls hR hS hl => kk (hR.2.2 o j (hok o hk) (by rw [hk]; exact hj) (by rw [hk]; exact hf)) H locs ls hR hS hl
/-! arrays -/
theorem ly_f0 {o c j : Nat} (hk : kls o = c) (hf : fk c j = 0) : ly_f y M o j = .int (q_i M o j) := by unfold ly_f; rw [hk, hf]; rfl
theorem ly_f1 {o c j : Nat} (hk : kls o = c) (hf : fk c j = 1) : ly_f y M o j = .ref (ly_a y o j) := by unfold ly_f; rw [hk, hf]; rfl
theorem ly_f2 {o c j k : Nat} (hk : kls o = c) (hf : fk c j = 2) (hs : sub o j = k) : ly_f y M o j = .ref (ly_o y k) := by unfold ly_f; rw [hk, hf, ← hs]; rfl
theorem ly_f3 {o c j : Nat} (hk : kls o = c) (hf : fk c j = 3) : ly_f y M o j = .ref (ly_o y (q_r M o j)) := by unfold ly_f; rw [hk, hf]; rfl
theorem ly_z0 {o c j : Nat} (hk : kls o = c) (ha : ak c j = 0) : ly_z y M o j = arrV (ly_c y 0) (al c j) (fun i => .int (q_a M o j i)) := by unfold ly_z; rw [hk, ha]; rfl
theorem ly_z1 {o c j : Nat} (hk : kls o = c) (ha : ak c j = 1) : ly_z y M o j = arrV (ly_c y 1) (al c j) (fun i => .long (q_l M o j i)) := by unfold ly_z; rw [hk, ha]; rfl
theorem ly_z2 {o c j : Nat} (hk : kls o = c) (ha : ak c j = 2) : ly_z y M o j = arrV (ly_c y 2) (al c j) (fun i => .int (q_a M o j i)) := by unfold ly_z; rw [hk, ha]; rfl
theorem ly_z3 {o c j : Nat} (hk : kls o = c) (ha : ak c j = 3) : ly_z y M o j = arrV (ly_c y 3) (al c j) (fun i => .int (q_a M o j i)) := by unfold ly_z; rw [hk, ha]; rfl
theorem ly_zq {o c j k : Nat} (hk : kls o = c) (ha : ak c j = k) (h4 : 4 ≤ k) : ly_z y M o j = arrV (ly_c y k) (al c j) (fun i => .ref (ly_o y (el o j i))) := by
  unfold ly_z
  rw [hk, ha]
  match k, h4 with
  | k + 4, _ => rfl

theorem v_iald (K : VK x l R y n cc own Ts) {o c j : Nat} {i : Int32} {α : Type} {A : Option α} {z : α} (N : Nat) (hF : (if q_in i N then A else none) = some z) (hk : kls o = c) (hok : okc y c) (hj : j < nfl c) (hf : fk c j = 1) (ha : ak c j = 0) (hN : al c j = N) (hd : decode cc pc = .ok (.iaload, 1))
    (kk : q_in i N → A = some z → V x y n M (pc + 1) lv (.int (q_a M o j i.toNatClampNeg) :: st)) : V x y n M pc lv (.int i :: .ref (ly_a y o j) :: st) := by
  intro H locs ls hR hS hl
  by_cases hin : q_in i N
  · have hlt : i.toNatClampNeg < N := Nat.not_le.mp fun q => hin (Or.inr q)
    have hz := hR.2.1 o j (hok o hk) (by rw [hk]; exact hj) (by rw [hk]; exact hf)
    rw [ly_z0 hk ha, hN] at hz
    have hty := (K.2.2.2.2.2.1.2 0 _ (show (ly_t y)[0]? = some (ly_c y 0, .int) from rfl)).1
    rw [if_pos hin] at hF
    exact W.iald (v := .int (q_a M o j i.toNatClampNeg)) K.1 K.2.1 hz (hty N _) (fun q => by cases q) (by show ¬ (i < 0 ∨ (arrV _ _ _).slots.size ≤ _); rw [arrV_size]; exact hin) (by show (arrV _ _ _).slots[_]? = _; rw [arrV_read _ _ hlt]) rfl rfl hd (kk hin hF H locs ls hR hS hl)
  · rw [if_neg hin] at hF
    cases hF
theorem v_lald (K : VK x l R y n cc own Ts) {o c j : Nat} {i : Int32} {α : Type} {A : Option α} {z : α} (N : Nat) (hF : (if q_in i N then A else none) = some z) (hk : kls o = c) (hok : okc y c) (hj : j < nfl c) (hf : fk c j = 1) (ha : ak c j = 1) (hN : al c j = N) (hd : decode cc pc = .ok (.laload, 1))
    (kk : q_in i N → A = some z → V x y n M (pc + 1) lv (.long (q_l M o j i.toNatClampNeg) :: st)) : V x y n M pc lv (.int i :: .ref (ly_a y o j) :: st) := by
  intro H locs ls hR hS hl
  by_cases hin : q_in i N
  · have hlt : i.toNatClampNeg < N := Nat.not_le.mp fun q => hin (Or.inr q)
    have hz := hR.2.1 o j (hok o hk) (by rw [hk]; exact hj) (by rw [hk]; exact hf)
    rw [ly_z1 hk ha, hN] at hz
    have hty := (K.2.2.2.2.2.1.2 1 _ (show (ly_t y)[1]? = some (ly_c y 1, .long) from rfl)).1
    rw [if_pos hin] at hF
    exact W.lald (v := .long (q_l M o j i.toNatClampNeg)) K.1 K.2.1 hz (hty N _) (fun q => by cases q) (by show ¬ (i < 0 ∨ (arrV _ _ _).slots.size ≤ _); rw [arrV_size]; exact hin) (by show (arrV _ _ _).slots[_]? = _; rw [arrV_read _ _ hlt]) rfl rfl hd (kk hin hF H locs ls hR hS hl)
  · rw [if_neg hin] at hF
    cases hF
theorem v_bald (K : VK x l R y n cc own Ts) {o c j : Nat} {i : Int32} {α : Type} {A : Option α} {z : α} (N : Nat) (hF : (if q_in i N then A else none) = some z) (hk : kls o = c) (hok : okc y c) (hj : j < nfl c) (hf : fk c j = 1) (ha : ak c j = 2) (hN : al c j = N) (hd : decode cc pc = .ok (.baload, 1))
    (kk : q_in i N → A = some z → V x y n M (pc + 1) lv (.int (q_a M o j i.toNatClampNeg) :: st)) : V x y n M pc lv (.int i :: .ref (ly_a y o j) :: st) := by
  intro H locs ls hR hS hl
  by_cases hin : q_in i N
  · have hlt : i.toNatClampNeg < N := Nat.not_le.mp fun q => hin (Or.inr q)
    have hz := hR.2.1 o j (hok o hk) (by rw [hk]; exact hj) (by rw [hk]; exact hf)
    rw [ly_z2 hk ha, hN] at hz
    have hty := (K.2.2.2.2.2.1.2 2 _ (show (ly_t y)[2]? = some (ly_c y 2, .byte) from rfl)).1
    rw [if_pos hin] at hF
    exact W.bald (v := .int (q_a M o j i.toNatClampNeg)) K.1 K.2.1 hz (hty N _) (fun q => by cases q) (by show ¬ (i < 0 ∨ (arrV _ _ _).slots.size ≤ _); rw [arrV_size]; exact hin) (by show (arrV _ _ _).slots[_]? = _; rw [arrV_read _ _ hlt]) rfl rfl hd (kk hin hF H locs ls hR hS hl)
  · rw [if_neg hin] at hF
    cases hF
theorem v_zald (K : VK x l R y n cc own Ts) {o c j : Nat} {i : Int32} {α : Type} {A : Option α} {z : α} (N : Nat) (hF : (if q_in i N then A else none) = some z) (hk : kls o = c) (hok : okc y c) (hj : j < nfl c) (hf : fk c j = 1) (ha : ak c j = 3) (hN : al c j = N) (hd : decode cc pc = .ok (.baload, 1))
    (kk : q_in i N → A = some z → V x y n M (pc + 1) lv (.int (q_a M o j i.toNatClampNeg) :: st)) : V x y n M pc lv (.int i :: .ref (ly_a y o j) :: st) := by
  intro H locs ls hR hS hl
  by_cases hin : q_in i N
  · have hlt : i.toNatClampNeg < N := Nat.not_le.mp fun q => hin (Or.inr q)
    have hz := hR.2.1 o j (hok o hk) (by rw [hk]; exact hj) (by rw [hk]; exact hf)
    rw [ly_z3 hk ha, hN] at hz
    have hty := (K.2.2.2.2.2.1.2 3 _ (show (ly_t y)[3]? = some (ly_c y 3, .boolean) from rfl)).1
    rw [if_pos hin] at hF
    exact W.zald (v := .int (q_a M o j i.toNatClampNeg)) K.1 K.2.1 hz (hty N _) (fun q => by cases q) (by show ¬ (i < 0 ∨ (arrV _ _ _).slots.size ≤ _); rw [arrV_size]; exact hin) (by show (arrV _ _ _).slots[_]? = _; rw [arrV_read _ _ hlt]) rfl rfl hd (kk hin hF H locs ls hR hS hl)
  · rw [if_neg hin] at hF
    cases hF
theorem v_aaldc (K : VK x l R y n cc own Ts) {o c j : Nat} {i : Int32} {α : Type} {A : Option α} {z : α} (N : Nat) (hF : (if q_in i N then A else none) = some z) (hk : kls o = c) (hok : okc y c) (hj : j < nfl c) (hf : fk c j = 1) (ha : ak c j = 4) (hN : al c j = N) (hd : decode cc pc = .ok (.aaload, 1))
    (kk : q_in i N → A = some z → V x y n M (pc + 1) lv (.ref (ly_o y (el o j i.toNatClampNeg)) :: st)) : V x y n M pc lv (.int i :: .ref (ly_a y o j) :: st) := by
  intro H locs ls hR hS hl
  by_cases hin : q_in i N
  · have hlt : i.toNatClampNeg < N := Nat.not_le.mp fun q => hin (Or.inr q)
    have hz := hR.2.1 o j (hok o hk) (by rw [hk]; exact hj) (by rw [hk]; exact hf)
    rw [ly_zq hk ha (by decide), hN] at hz
    have hty := (K.2.2.2.2.2.1.2 4 _ (show (ly_t y)[4]? = some (ly_c y 4, .object "TwoCards$Code") from rfl)).1
    rw [if_pos hin] at hF
    exact W.aald (v := .ref (ly_o y (el o j i.toNatClampNeg))) K.1 K.2.1 hz (hty N _) rfl (fun q => by cases q) (by show ¬ (i < 0 ∨ (arrV _ _ _).slots.size ≤ _); rw [arrV_size]; exact hin) (by show (arrV _ _ _).slots[_]? = _; rw [arrV_read _ _ hlt]) rfl rfl hd (kk hin hF H locs ls hR hS hl)
  · rw [if_neg hin] at hF
    cases hF
theorem v_aaldq (K : VK x l R y n cc own Ts) {o c j : Nat} {i : Int32} {α : Type} {A : Option α} {z : α} (N : Nat) (hF : (if q_in i N then A else none) = some z) (hk : kls o = c) (hok : okc y c) (hj : j < nfl c) (hf : fk c j = 1) (ha : ak c j = 5) (hN : al c j = N) (hd : decode cc pc = .ok (.aaload, 1))
    (kk : q_in i N → A = some z → V x y n M (pc + 1) lv (.ref (ly_o y (el o j i.toNatClampNeg)) :: st)) : V x y n M pc lv (.int i :: .ref (ly_a y o j) :: st) := by
  intro H locs ls hR hS hl
  by_cases hin : q_in i N
  · have hlt : i.toNatClampNeg < N := Nat.not_le.mp fun q => hin (Or.inr q)
    have hz := hR.2.1 o j (hok o hk) (by rw [hk]; exact hj) (by rw [hk]; exact hf)
    rw [ly_zq hk ha (by decide), hN] at hz
    have hty := (K.2.2.2.2.2.1.2 5 _ (show (ly_t y)[5]? = some (ly_c y 5, .object "TwoCards$Quarrel") from rfl)).1
    rw [if_pos hin] at hF
    exact W.aald (v := .ref (ly_o y (el o j i.toNatClampNeg))) K.1 K.2.1 hz (hty N _) rfl (fun q => by cases q) (by show ¬ (i < 0 ∨ (arrV _ _ _).slots.size ≤ _); rw [arrV_size]; exact hin) (by show (arrV _ _ _).slots[_]? = _; rw [arrV_read _ _ hlt]) rfl rfl hd (kk hin hF H locs ls hR hS hl)
  · rw [if_neg hin] at hF
    cases hF
theorem v_aaldb (K : VK x l R y n cc own Ts) {o c j : Nat} {i : Int32} {α : Type} {A : Option α} {z : α} (N : Nat) (hF : (if q_in i N then A else none) = some z) (hk : kls o = c) (hok : okc y c) (hj : j < nfl c) (hf : fk c j = 1) (ha : ak c j = 6) (hN : al c j = N) (hd : decode cc pc = .ok (.aaload, 1))
    (kk : q_in i N → A = some z → V x y n M (pc + 1) lv (.ref (ly_o y (el o j i.toNatClampNeg)) :: st)) : V x y n M pc lv (.int i :: .ref (ly_a y o j) :: st) := by
  intro H locs ls hR hS hl
  by_cases hin : q_in i N
  · have hlt : i.toNatClampNeg < N := Nat.not_le.mp fun q => hin (Or.inr q)
    have hz := hR.2.1 o j (hok o hk) (by rw [hk]; exact hj) (by rw [hk]; exact hf)
    rw [ly_zq hk ha (by decide), hN] at hz
    have hty := (K.2.2.2.2.2.1.2 6 _ (show (ly_t y)[6]? = some (ly_c y 6, .object "TwoCards$Book") from rfl)).1
    rw [if_pos hin] at hF
    exact W.aald (v := .ref (ly_o y (el o j i.toNatClampNeg))) K.1 K.2.1 hz (hty N _) rfl (fun q => by cases q) (by show ¬ (i < 0 ∨ (arrV _ _ _).slots.size ≤ _); rw [arrV_size]; exact hin) (by show (arrV _ _ _).slots[_]? = _; rw [arrV_read _ _ hlt]) rfl rfl hd (kk hin hF H locs ls hR hS hl)
  · rw [if_neg hin] at hF
    cases hF
theorem v_iast (K : VK x l R y n cc own Ts) {o c j : Nat} {i : Int32} {v : Int32} {α : Type} {A : Option α} {z : α} (N : Nat) (hF : (if q_in i N then A else none) = some z) (hk : kls o = c) (hok : okc y c) (hj : j < nfl c) (hf : fk c j = 1) (ha : ak c j = 0) (hN : al c j = N) (hd : decode cc pc = .ok (.iastore, 1))
    (kk : q_in i N → A = some z → V x y n (p_a M o j i.toNatClampNeg v) (pc + 1) lv st) : V x y n M pc lv (.int v :: .int i :: .ref (ly_a y o j) :: st) := by
  intro H locs ls hR hS hl
  by_cases hin : q_in i N
  · have hz := hR.2.1 o j (hok o hk) (by rw [hk]; exact hj) (by rw [hk]; exact hf)
    rw [ly_z0 hk ha, hN] at hz
    have hty := (K.2.2.2.2.2.1.2 0 _ (show (ly_t y)[0]? = some (ly_c y 0, .int) from rfl)).1
    rw [if_pos hin] at hF
    refine W.iast K.1 K.2.1 hz (hty N _) (fun q => by cases q) (by show ¬ (i < 0 ∨ (arrV _ _ _).slots.size ≤ _); rw [arrV_size]; exact hin) rfl rfl hd fun H1 e zz oq => ?_
    refine kk hin hF H1 _ ls (rep_pa K.2.2.2.2.2.2.1 hR (hok o hk) (by rw [hk]; exact hf) ?_ oq) (hS.put zz oq (Or.inr ⟨o, j, hok o hk, by rw [hk]; exact hj, by rw [hk]; exact hf, rfl⟩)) hl
    rw [e, ly_z0 hk ha, hN, arrV_store]
    congr 2
    funext k
    unfold updV
    rw [q_a_p_a]
    by_cases hq : k = i.toNatClampNeg
    · rw [if_pos hq, if_pos ⟨rfl, rfl, hq⟩]
      try rfl
    · rw [if_neg hq, if_neg (fun h => hq h.2.2)]
  · rw [if_neg hin] at hF
    cases hF
theorem v_last (K : VK x l R y n cc own Ts) {o c j : Nat} {i : Int32} {v : Int64} {α : Type} {A : Option α} {z : α} (N : Nat) (hF : (if q_in i N then A else none) = some z) (hk : kls o = c) (hok : okc y c) (hj : j < nfl c) (hf : fk c j = 1) (ha : ak c j = 1) (hN : al c j = N) (hd : decode cc pc = .ok (.lastore, 1))
    (kk : q_in i N → A = some z → V x y n (p_l M o j i.toNatClampNeg v) (pc + 1) lv st) : V x y n M pc lv (.long v :: .int i :: .ref (ly_a y o j) :: st) := by
  intro H locs ls hR hS hl
  by_cases hin : q_in i N
  · have hz := hR.2.1 o j (hok o hk) (by rw [hk]; exact hj) (by rw [hk]; exact hf)
    rw [ly_z1 hk ha, hN] at hz
    have hty := (K.2.2.2.2.2.1.2 1 _ (show (ly_t y)[1]? = some (ly_c y 1, .long) from rfl)).1
    rw [if_pos hin] at hF
    refine W.last K.1 K.2.1 hz (hty N _) (fun q => by cases q) (by show ¬ (i < 0 ∨ (arrV _ _ _).slots.size ≤ _); rw [arrV_size]; exact hin) rfl rfl hd fun H1 e zz oq => ?_
    refine kk hin hF H1 _ ls (rep_pl K.2.2.2.2.2.2.1 hR (hok o hk) (by rw [hk]; exact hf) ?_ oq) (hS.put zz oq (Or.inr ⟨o, j, hok o hk, by rw [hk]; exact hj, by rw [hk]; exact hf, rfl⟩)) hl
    rw [e, ly_z1 hk ha, hN, arrV_store]
    congr 2
    funext k
    unfold updV
    rw [q_l_p_l]
    by_cases hq : k = i.toNatClampNeg
    · rw [if_pos hq, if_pos ⟨rfl, rfl, hq⟩]
      try rfl
    · rw [if_neg hq, if_neg (fun h => hq h.2.2)]
  · rw [if_neg hin] at hF
    cases hF
theorem v_bast (K : VK x l R y n cc own Ts) {o c j : Nat} {i : Int32} {v : Int32} {α : Type} {A : Option α} {z : α} (N : Nat) (hF : (if q_in i N then A else none) = some z) (hk : kls o = c) (hok : okc y c) (hj : j < nfl c) (hf : fk c j = 1) (ha : ak c j = 2) (hN : al c j = N) (hd : decode cc pc = .ok (.bastore, 1))
    (kk : q_in i N → A = some z → V x y n (p_a M o j i.toNatClampNeg (vp_nar .byte v)) (pc + 1) lv st) : V x y n M pc lv (.int v :: .int i :: .ref (ly_a y o j) :: st) := by
  intro H locs ls hR hS hl
  by_cases hin : q_in i N
  · have hz := hR.2.1 o j (hok o hk) (by rw [hk]; exact hj) (by rw [hk]; exact hf)
    rw [ly_z2 hk ha, hN] at hz
    have hty := (K.2.2.2.2.2.1.2 2 _ (show (ly_t y)[2]? = some (ly_c y 2, .byte) from rfl)).1
    rw [if_pos hin] at hF
    refine W.bast K.1 K.2.1 hz (hty N _) (fun q => by cases q) (by show ¬ (i < 0 ∨ (arrV _ _ _).slots.size ≤ _); rw [arrV_size]; exact hin) rfl rfl hd fun H1 e zz oq => ?_
    refine kk hin hF H1 _ ls (rep_pa K.2.2.2.2.2.2.1 hR (hok o hk) (by rw [hk]; exact hf) ?_ oq) (hS.put zz oq (Or.inr ⟨o, j, hok o hk, by rw [hk]; exact hj, by rw [hk]; exact hf, rfl⟩)) hl
    rw [e, ly_z2 hk ha, hN, arrV_store]
    congr 2
    funext k
    unfold updV
    rw [q_a_p_a]
    by_cases hq : k = i.toNatClampNeg
    · rw [if_pos hq, if_pos ⟨rfl, rfl, hq⟩]
      try rfl
    · rw [if_neg hq, if_neg (fun h => hq h.2.2)]
  · rw [if_neg hin] at hF
    cases hF
theorem v_zast (K : VK x l R y n cc own Ts) {o c j : Nat} {i : Int32} {v : Int32} {α : Type} {A : Option α} {z : α} (N : Nat) (hF : (if q_in i N then A else none) = some z) (hk : kls o = c) (hok : okc y c) (hj : j < nfl c) (hf : fk c j = 1) (ha : ak c j = 3) (hN : al c j = N) (hd : decode cc pc = .ok (.bastore, 1))
    (kk : q_in i N → A = some z → V x y n (p_a M o j i.toNatClampNeg (vp_nar .boolean v)) (pc + 1) lv st) : V x y n M pc lv (.int v :: .int i :: .ref (ly_a y o j) :: st) := by
  intro H locs ls hR hS hl
  by_cases hin : q_in i N
  · have hz := hR.2.1 o j (hok o hk) (by rw [hk]; exact hj) (by rw [hk]; exact hf)
    rw [ly_z3 hk ha, hN] at hz
    have hty := (K.2.2.2.2.2.1.2 3 _ (show (ly_t y)[3]? = some (ly_c y 3, .boolean) from rfl)).1
    rw [if_pos hin] at hF
    refine W.zast K.1 K.2.1 hz (hty N _) (fun q => by cases q) (by show ¬ (i < 0 ∨ (arrV _ _ _).slots.size ≤ _); rw [arrV_size]; exact hin) rfl rfl hd fun H1 e zz oq => ?_
    refine kk hin hF H1 _ ls (rep_pa K.2.2.2.2.2.2.1 hR (hok o hk) (by rw [hk]; exact hf) ?_ oq) (hS.put zz oq (Or.inr ⟨o, j, hok o hk, by rw [hk]; exact hj, by rw [hk]; exact hf, rfl⟩)) hl
    rw [e, ly_z3 hk ha, hN, arrV_store]
    congr 2
    funext k
    unfold updV
    rw [q_a_p_a]
    by_cases hq : k = i.toNatClampNeg
    · rw [if_pos hq, if_pos ⟨rfl, rfl, hq⟩]
      try rfl
    · rw [if_neg hq, if_neg (fun h => hq h.2.2)]
  · rw [if_neg hin] at hF
    cases hF
/-! calls -/
theorem q_blind {y : Ly} {args : List Value} {M : QM} : FrameBlind (q_P y args M) := fun a U g mk q => by
  obtain ⟨h1, h2, h3, h4, h5⟩ := q
  exact ⟨h1, h2, va_K.moved (u := U) (U := U.calling g mk a) (Vm.Alike.refl U.vm) h3, fun q hq => va_Nw.same (u := U) (U := U.calling g mk a) rfl rfl (h4 q hq), ly_T.same (s := U) (U := U.calling g mk a) h5 rfl rfl⟩
theorem v_ran {Mc M1 : QM} {args : Array Value} {g : JFrame} {rest : List Value} {r : Option Value} {H : Heap} {locs : List Loc} {ls : Array Slot} (hg : g = F0 (cx_m x) pc ls st)
    (hr : va_Run x.1 (cx_l x) x.2.2.1 (cx_R x) (cx_s x) (cx_m x) (cx_v x) (cx_b x) (cx_h x) (cx_c x) H locs 0 0 0 0 g rest (q_E y r M1 args) (ly_A y)) (hS : va_S (ly_A y) (cx_s x).heap H locs) (hl : lv_has ls n lv)
    (kk : V x y n M1 (pc + 3) lv (r.toList ++ rest)) : cx_W x H locs (F0 (cx_m x) pc ls st) := by
  subst hg
  intro T hT X
  obtain ⟨v, st₀, t, T', L, h0, X', hL, e1, e2, ⟨hv, hR1, hz, hk⟩, stp⟩ := hr T hT X
  cases hv
  rw [h0] at hz hk
  obtain ⟨t2, a1, b1⟩ := kk T'.heap (locs ++ L) ls (by rw [e1]; exact hR1)
    ⟨Nat.le_trans hS.1 (by rw [e1]; exact hz), fun q h1 h2 => by rw [e1, hk q (Nat.lt_of_lt_of_le h1 hS.1) h2]; exact hS.2.1 q h1 h2, fun q hq => by
      rcases List.mem_append.mp hq with h | h
      · exact hS.2.2 q h
      · exact hL q h⟩ hl T' rfl X'
  exact ⟨t2, stp t2 a1, b1⟩
theorem v_callV (K : VK x l R y n cc own Ts) {yn : MethodName} {bytes : ByteArray} {maxL nA idx o ci N : Nat} {ret : Option FieldType} {ws ws' : List Cond} {rm : Room} {C : String} {T : u_T} {As rest : List Value} {r : Option Value} {M1 : QM} {st' : List Value}
    (hM : Met l yn ws rm (q_P y (.ref (ly_o y o) :: As) M) (q_E y r M1) 0 0 (ly_A y)) (hG : GoodIn Ts (wsV own idx C yn ws)) (hw : ws = Cond.code yn bytes maxL ret :: ws') (hrc : rm.cells = 0) (hrs : rm.slots = 0)
    (hdd : yn.cls = C ∧ yn.cls ≠ "java/lang/invoke/MethodHandle" ∧ yn.cls ≠ "java/lang/invoke/VarHandle" ∧ (parseMethodDescriptor yn.desc).map (fun d => d.parameters.length) = some nA) (hRm : rm.frames + 1 ≤ R.frames ∧ 8 + (maxL + 11) + rm.locals ≤ R.locals)
    (hn : As.length = nA) (hst : st = As.reverse ++ .ref (ly_o y o) :: rest) (hcat : (rest.map fun v => v.category).sum ≤ 8) (hk : kls o = ci) (hok : okc y ci) (hc : vwCl[ci]? = some (C, T, N)) (hd : decode cc pc = .ok (.invokevirtual idx, 3))
    (hst' : r.toList ++ rest = st') (kk : V x y n M1 (pc + 3) lv st') : V x y n M pc lv st := by
  subst hst'
  intro H locs ls hR hS hl
  obtain ⟨cell, g1, g2, g3, -⟩ := hR.1 o (hok o hk)
  have hK := K.2.2.2.2.2.1
  have hl0 := K.2.2.2.2.2.2.2.1
  have hR0 := K.2.2.2.2.2.2.2.2.1
  have hN := K.2.2.2.2.2.2.2.2.2.1
  have hT := K.2.2.2.2.2.2.2.2.2.2
  subst hl0
  subst hR0
  exact v_ran (Mc := M) rfl (va_runV (As := As) (rest := rest) ⟨K.1, K.2.1, K.2.2.1, K.2.2.2.1, K.2.2.2.2.1⟩ hM (cwV nA K.2.2.2.2.1 hG hw hrc hrs hdd hRm) ⟨q_blind, ⟨cell, g1, by rw [g3]; rfl, by rw [g2, hk]; exact (hK.1 ci _ hc).2.1⟩, fun U hU hW => ⟨rfl, by rw [hU]; exact hR, va_K.moved hW.alike hK, fun q hq => va_Nw.warmM hW (hN q hq), ly_T.step hT hW (fun q h1 h2 => by rw [hU]; exact hS.2.1 q h1 h2)⟩⟩ rfl hn hl.1 hst (lv_room hcat) hd ⟨Nat.zero_le _, Nat.zero_le _⟩) hS hl kk
theorem v_callS (K : VK x l R y n cc own Ts) {yn : MethodName} {bytes : ByteArray} {maxL nA idx : Nat} {ret : Option FieldType} {ws ws' : List Cond} {rm : Room} {As rest : List Value} {r : Option Value} {M1 : QM} {st' : List Value}
    (hM : Met l yn ws rm (q_P y As M) (q_E y r M1) 0 0 (ly_A y)) (hG : GoodIn Ts (va_wsS own idx yn ws)) (hw : ws = Cond.code yn bytes maxL ret :: ws') (hrc : rm.cells = 0) (hrs : rm.slots = 0)
    (hdd : yn.cls ≠ "java/lang/invoke/MethodHandle" ∧ yn.cls ≠ "java/lang/invoke/VarHandle" ∧ (parseMethodDescriptor yn.desc).map (fun d => d.parameters.length) = some nA) (hRm : rm.frames + 1 ≤ R.frames ∧ 8 + (maxL + 11) + rm.locals ≤ R.locals)
    (hn : As.length = nA) (hst : st = As.reverse ++ rest) (hcat : (rest.map fun v => v.category).sum ≤ 8) (hd : decode cc pc = .ok (.invokestatic idx, 3))
    (hst' : r.toList ++ rest = st') (kk : V x y n M1 (pc + 3) lv st') : V x y n M pc lv st := by
  subst hst'
  intro H locs ls hR hS hl
  have hK := K.2.2.2.2.2.1
  have hl0 := K.2.2.2.2.2.2.2.1
  have hR0 := K.2.2.2.2.2.2.2.2.1
  have hN := K.2.2.2.2.2.2.2.2.2.1
  have hT := K.2.2.2.2.2.2.2.2.2.2
  subst hl0
  subst hR0
  exact v_ran (Mc := M) rfl (va_runS (As := As) (rest := rest) ⟨K.1, K.2.1, K.2.2.1, K.2.2.2.1, K.2.2.2.2.1⟩ hM (va_cwS nA K.2.2.2.2.1 hG hw hrc hrs hdd hRm) ⟨q_blind, fun U hU hW => ⟨rfl, by rw [hU]; exact hR, va_K.moved hW.alike hK, fun q hq => va_Nw.warmM hW (hN q hq), ly_T.step hT hW (fun q h1 h2 => by rw [hU]; exact hS.2.1 q h1 h2)⟩⟩ rfl hn hl.1 hst (lv_room hcat) hd ⟨Nat.zero_le _, Nat.zero_le _⟩) hS hl kk
theorem v_callSN (K : VK x l R y n cc own Ts) {yn : MethodName} {bytes : ByteArray} {maxL nA idx : Nat} {host : String} {ret : Option FieldType} {ws ws' : List Cond} {rm : Room} {As rest : List Value} {r : Option Value} {M1 : QM} {st' : List Value}
    (hM : Met l yn ws rm (q_P y As M) (q_E y r M1) 0 0 (ly_A y)) (hG : GoodIn Ts ws) (hsta : Cond.static yn ∈ Ts) (hini : Cond.initialized yn.cls ∈ Ts) (hnest : (own, idx, yn, host) ∈ q_Nl) (hw : ws = Cond.code yn bytes maxL ret :: ws') (hrc : rm.cells = 0) (hrs : rm.slots = 0)
    (hdd : yn.cls ≠ "java/lang/invoke/MethodHandle" ∧ yn.cls ≠ "java/lang/invoke/VarHandle" ∧ (parseMethodDescriptor yn.desc).map (fun d => d.parameters.length) = some nA) (hRm : rm.frames + 1 ≤ R.frames ∧ 8 + (maxL + 11) + rm.locals ≤ R.locals)
    (hn : As.length = nA) (hst : st = As.reverse ++ rest) (hcat : (rest.map fun v => v.category).sum ≤ 8) (hd : decode cc pc = .ok (.invokestatic idx, 3))
    (hst' : r.toList ++ rest = st') (kk : V x y n M1 (pc + 3) lv st') : V x y n M pc lv st := by
  subst hst'
  intro H locs ls hR hS hl
  have hK := K.2.2.2.2.2.1
  have hl0 := K.2.2.2.2.2.2.2.1
  have hR0 := K.2.2.2.2.2.2.2.2.1
  have hN := K.2.2.2.2.2.2.2.2.2.1
  have hT := K.2.2.2.2.2.2.2.2.2.2
  subst hl0
  subst hR0
  exact v_ran (Mc := M) rfl (va_runSN (host := host) (As := As) (rest := rest) ⟨K.1, K.2.1, K.2.2.1, K.2.2.2.1, K.2.2.2.2.1⟩ hM ⟨va_cnB nA K.2.2.2.2.1 hG hw hrc hrs (hN _ hnest) (K.2.2.2.2.1 _ hini) hdd hRm, K.2.2.2.2.1 _ hsta, trivial⟩ ⟨q_blind, fun U hU hW => ⟨rfl, by rw [hU]; exact hR, va_K.moved hW.alike hK, fun q hq => va_Nw.warmM hW (hN q hq), ly_T.step hT hW (fun q h1 h2 => by rw [hU]; exact hS.2.1 q h1 h2)⟩⟩ rfl hn hl.1 hst (lv_room hcat) hd ⟨Nat.zero_le _, Nat.zero_le _⟩) hS hl kk
/-! ends -/
theorem v_iret (K : VK x l R y n cc own Ts) {v : Int32} (hQ : VQ x y (some (.int v)) M (some .int)) (hd : decode cc pc = .ok (.ireturn, 1)) : V x y n M pc lv [.int v] := by
  intro H locs ls hR hS hl
  unfold cx_W
  rw [hQ.1]
  exact W.iret (v := v) K.1 K.2.1 hQ.2.1 (fun t ht hW => ⟨rfl, by rw [ht]; exact hR, hS.F ht⟩) hS.2.2 hd (hlocks := hQ.2.2)
theorem v_zret (K : VK x l R y n cc own Ts) {v : Int32} {ty : FieldType} (hQ : VQ x y (some (.int v)) M (some ty)) (hn : narrow ty (.int v) = .int v) (hd : decode cc pc = .ok (.ireturn, 1)) : V x y n M pc lv [.int v] := by
  intro H locs ls hR hS hl
  unfold cx_W
  rw [hQ.1]
  exact W.zret (v := v) K.1 K.2.1 hQ.2.1 hn (fun t ht hW => ⟨rfl, by rw [ht]; exact hR, hS.F ht⟩) hS.2.2 hd (hlocks := hQ.2.2)
theorem v_vret (K : VK x l R y n cc own Ts) (hQ : VQ x y none M none) (hd : decode cc pc = .ok (.return_, 1)) : V x y n M pc lv [] := by
  intro H locs ls hR hS hl
  unfold cx_W
  rw [hQ.1]
  exact W.vret K.1 K.2.1 hQ.2.1 (fun t ht hW => ⟨rfl, by rw [ht]; exact hR, hS.F ht⟩) hS.2.2 hd (hlocks := hQ.2.2)
theorem v_lret (K : VK x l R y n cc own Ts) {v : Int64} (hQ : VQ x y (some (.long v)) M (some .long)) (hd : decode cc pc = .ok (.lreturn, 1)) : V x y n M pc lv [.long v] := by
  intro H locs ls hR hS hl
  unfold cx_W
  rw [hQ.1]
  exact W.lret (v := v) K.1 K.2.1 hQ.2.1 (fun t ht hW => ⟨rfl, by rw [ht]; exact hR, hS.F ht⟩) hS.2.2 hd (hlocks := hQ.2.2)
theorem v_aret (K : VK x l R y n cc own Ts) {v : Nat} {rt : FieldType} (hQ : VQ x y (some (.ref v)) M (some rt)) (hrt : (∃ n, rt = .object n) ∨ ∃ t, rt = .array t) (hd : decode cc pc = .ok (.areturn, 1)) : V x y n M pc lv [.ref v] := by
  intro H locs ls hR hS hl
  unfold cx_W
  rw [hQ.1]
  exact W.aret (v := .ref v) K.1 K.2.1 hQ.2.1 hrt (Or.inr ⟨v, rfl⟩) (fun t ht hW => ⟨rfl, by rw [ht]; exact hR, hS.F ht⟩) hS.2.2 hd (hlocks := hQ.2.2)
theorem v_aretN (K : VK x l R y n cc own Ts) {rt : FieldType} (hQ : VQ x y (some .null) M (some rt)) (hrt : (∃ n, rt = .object n) ∨ ∃ t, rt = .array t) (hd : decode cc pc = .ok (.areturn, 1)) : V x y n M pc lv [.null] := by
  intro H locs ls hR hS hl
  unfold cx_W
  rw [hQ.1]
  exact W.aret (v := .null) K.1 K.2.1 hQ.2.1 hrt (Or.inl rfl) (fun t ht hW => ⟨rfl, by rw [ht]; exact hR, hS.F ht⟩) hS.2.2 hd (hlocks := hQ.2.2)
end VROWS
