/-! MAKING: the heap as a function of the offset from a base; a row an instruction of the constructors -/
abbrev HC : Type := Nat × Nat × List (Nat × Nat)
abbrev FH : Type := Nat → HC
def h_v (B : Nat) (q : Nat × Nat) : Value := match q.1 with
  | 0 => .int (nI q.2)
  | 1 => .ref (B + q.2)
  | _ => .null
def h_z (k : Nat) : Value := match k with
  | 1 => .long 0
  | _ => .int 0
def h_at (y : Ly) (B a : Nat) (c : HC) (H : Heap) : Prop := match c.1 with
  | 0 => t_OB (B + a) (y.1.1 c.2.1) (nfl c.2.1) (y.1.2 c.2.1) H (fun j => h_v B (c.2.2.getD j (2, 0)))
  | 1 => H[B + a]? = some (arrV (ly_c y c.2.1) (c.2.2.getD 0 (0, 0)).2 (fun _ => h_z c.2.1))
  | _ => H[B + a]? = some (arrV (ly_c y c.2.1) c.2.2.length (fun i => h_v B (c.2.2.getD i (2, 0))))
def HP (y : Ly) (B n : Nat) (f : FH) (H : Heap) : Prop := H.size = B + n ∧ ∀ k, k < n → h_at y B k (f k) H
def h_u (f : FH) (a : Nat) (c : HC) : FH := fun q => if q = a then c else f q
theorem h_us {f : FH} {a : Nat} {c : HC} : h_u f a c a = c := if_pos rfl
theorem h_un {f : FH} {a q : Nat} {c : HC} (h : q ≠ a) : h_u f a c q = f q := if_neg h
/-- a write into the field j of the object at a; into the place i of the row at a -/
def h_p (f : FH) (a j : Nat) (v : Nat × Nat) : FH := h_u f a ((f a).1, (f a).2.1, (f a).2.2.set j v)
def isO (f : FH) (n a c : Nat) : Prop := a < n ∧ (f a).1 = 0 ∧ (f a).2.1 = c ∧ (f a).2.2.length = nfl c
def isR (f : FH) (n a k m : Nat) : Prop := a < n ∧ (f a).1 = 2 ∧ (f a).2.1 = k ∧ (f a).2.2.length = m
def h_t {α β : Type} (a : α) (g : α → β) : β := g a
theorem isO.new {f : FH} {n a c : Nat} {X : HC} (h : isO f n a c) : isO (h_u f n X) (n + 1) a c := by
  obtain ⟨h1, h2⟩ := h
  exact ⟨Nat.lt_succ_of_lt h1, by rw [h_un (Nat.ne_of_lt h1)]; exact h2⟩
theorem isR.new {f : FH} {n a k m : Nat} {X : HC} (h : isR f n a k m) : isR (h_u f n X) (n + 1) a k m := by
  obtain ⟨h1, h2⟩ := h
  exact ⟨Nat.lt_succ_of_lt h1, by rw [h_un (Nat.ne_of_lt h1)]; exact h2⟩
theorem isO.here {f : FH} {n c : Nat} {fs : List (Nat × Nat)} (h : fs.length = nfl c) : isO (h_u f n (0, c, fs)) (n + 1) n c := ⟨Nat.lt_succ_self n, by rw [h_us]; exact ⟨rfl, rfl, h⟩⟩
theorem isR.here {f : FH} {n k m : Nat} {fs : List (Nat × Nat)} (h : fs.length = m) : isR (h_u f n (2, k, fs)) (n + 1) n k m := ⟨Nat.lt_succ_self n, by rw [h_us]; exact ⟨rfl, rfl, h⟩⟩
theorem isO.put {f : FH} {n a b c j : Nat} {v : Nat × Nat} (h : isO f n a c) : isO (h_p f b j v) n a c := by
  obtain ⟨h1, h2, h3, h4⟩ := h
  refine ⟨h1, ?_⟩
  unfold h_p h_u
  by_cases e : a = b
  · subst e
    rw [if_pos rfl]
    exact ⟨h2, h3, by rw [List.length_set]; exact h4⟩
  · rw [if_neg e]
    exact ⟨h2, h3, h4⟩
theorem isR.put {f : FH} {n a b k m j : Nat} {v : Nat × Nat} (h : isR f n a k m) : isR (h_p f b j v) n a k m := by
  obtain ⟨h1, h2, h3, h4⟩ := h
  refine ⟨h1, ?_⟩
  unfold h_p h_u
  by_cases e : a = b
  · subst e
    rw [if_pos rfl]
    exact ⟨h2, h3, by rw [List.length_set]; exact h4⟩
  · rw [if_neg e]
    exact ⟨h2, h3, h4⟩
/-- what an object's making leaves: other cells below n, and the object's own sort -/
def h_K (f : FH) (n a : Nat) (f1 : FH) : Prop := (∀ q, q < n → q ≠ a → f1 q = f q) ∧ (f1 a).1 = (f a).1 ∧ (f1 a).2.1 = (f a).2.1 ∧ (f1 a).2.2.length = (f a).2.2.length
theorem h_K.rf {f : FH} {n a : Nat} : h_K f n a f := ⟨fun _ _ _ => rfl, rfl, rfl, rfl⟩
theorem h_K.new {f f1 : FH} {n n1 a : Nat} {X : HC} (h : h_K f n a f1) (hn : n ≤ n1) (ha : a < n) : h_K f n a (h_u f1 n1 X) := by
  obtain ⟨h1, h2⟩ := h
  refine ⟨fun q hq hqa => by rw [h_un (by omega)]; exact h1 q hq hqa, ?_⟩
  rw [h_un (by omega)]
  exact h2
theorem h_K.put {f f1 : FH} {n a j : Nat} {v : Nat × Nat} (h : h_K f n a f1) : h_K f n a (h_p f1 a j v) := by
  obtain ⟨h1, h2, h3, h4⟩ := h
  refine ⟨fun q hq hqa => ?_, ?_⟩
  · unfold h_p
    rw [h_un hqa]
    exact h1 q hq hqa
  · unfold h_p
    rw [h_us]
    exact ⟨h2, h3, by rw [List.length_set]; exact h4⟩
theorem h_K.far {f f1 : FH} {n a b j : Nat} {v : Nat × Nat} (h : h_K f n a f1) (hb : n ≤ b) (ha : a < n) : h_K f n a (h_p f1 b j v) := by
  obtain ⟨h1, h2⟩ := h
  unfold h_p
  refine ⟨fun q hq hqa => by rw [h_un (by omega)]; exact h1 q hq hqa, ?_⟩
  rw [h_un (by omega)]
  exact h2
theorem h_K.call {f f1 f2 : FH} {n n1 a b : Nat} (h : h_K f n a f1) (hc : h_K f1 n1 b f2) (hn : n ≤ b) (hn1 : n ≤ n1) (ha : a < n) : h_K f n a f2 := by
  obtain ⟨h1, h2⟩ := h
  refine ⟨fun q hq hqa => by rw [hc.1 q (by omega) (by omega)]; exact h1 q hq hqa, ?_⟩
  rw [hc.1 a (by omega) (by omega)]
  exact h2
theorem isO.call {f f1 : FH} {n n1 a b c : Nat} (h : isO f n a c) (hc : h_K f n b f1) (hn : n ≤ n1) : isO f1 n1 a c := by
  obtain ⟨h1, h2, h3, h4⟩ := h
  refine ⟨by omega, ?_⟩
  by_cases e : a = b
  · subst e
    exact ⟨hc.2.1.trans h2, hc.2.2.1.trans h3, hc.2.2.2.trans h4⟩
  · rw [hc.1 a h1 e]
    exact ⟨h2, h3, h4⟩
theorem isR.call {f f1 : FH} {n n1 a b k m : Nat} (h : isR f n a k m) (hc : h_K f n b f1) (hn : n ≤ n1) : isR f1 n1 a k m := by
  obtain ⟨h1, h2, h3, h4⟩ := h
  refine ⟨by omega, ?_⟩
  by_cases e : a = b
  · subst e
    exact ⟨hc.2.1.trans h2, hc.2.2.1.trans h3, hc.2.2.2.trans h4⟩
  · rw [hc.1 a h1 e]
    exact ⟨h2, h3, h4⟩
/-- what a field holds -/
def h_g (f : FH) (a j : Nat) (v : Nat × Nat) : Prop := (f a).2.2.getD j (2, 0) = v
theorem h_g.new {f : FH} {n a j : Nat} {v : Nat × Nat} {X : HC} (h : h_g f a j v) (ha : a < n) : h_g (h_u f n X) a j v := by
  unfold h_g
  rw [h_un (by omega)]
  exact h
theorem h_g.far {f : FH} {a b j i : Nat} {v w : Nat × Nat} (h : h_g f a j v) (hb : a ≠ b) : h_g (h_p f b i w) a j v := by
  unfold h_g h_p
  rw [h_un hb]
  exact h
theorem h_g.other {f : FH} {a j i : Nat} {v w : Nat × Nat} (h : h_g f a j v) (hi : i ≠ j) : h_g (h_p f a i w) a j v := by
  unfold h_g h_p
  rw [h_us]
  show ((f a).2.2.set i w).getD j (2, 0) = v
  rw [List.getD_eq_getElem?_getD, List.getElem?_set_ne hi, ← List.getD_eq_getElem?_getD]
  exact h
theorem h_g.here {f : FH} {n a j c : Nat} {v : Nat × Nat} (h : isO f n a c) (hj : j < nfl c) : h_g (h_p f a j v) a j v := by
  unfold h_g h_p
  rw [h_us]
  show ((f a).2.2.set j v).getD j (2, 0) = v
  rw [List.getD_eq_getElem?_getD, List.getElem?_set_self (by rw [h.2.2.2]; exact hj)]
  rfl
theorem h_g.call {f f1 : FH} {n a b j : Nat} {v : Nat × Nat} (h : h_g f a j v) (hc : h_K f n b f1) (ha : a < n) (hb : a ≠ b) : h_g f1 a j v := by
  unfold h_g
  rw [hc.1 a ha hb]
  exact h
theorem HP.grow {y : Ly} {B n : Nat} {f : FH} {H H1 : Heap} {X : HC} (h : HP y B n f H) (hz : H1.size = H.size + 1) (ho : ∀ q, q < H.size → H1[q]? = H[q]?) (hX : h_at y B n X H1) : HP y B (n + 1) (h_u f n X) H1 := by
  refine ⟨by rw [hz, h.1]; omega, fun k hk => ?_⟩
  by_cases e : k = n
  · subst e
    rw [h_us]
    exact hX
  · rw [h_un e]
    have h1 := h.2 k (by omega)
    have hs := h.1
    revert h1
    unfold h_at
    split
    · exact fun h1 => h1.kept (ho _ (by omega))
    · exact fun h1 => (ho _ (by omega)).trans h1
    · exact fun h1 => (ho _ (by omega)).trans h1
theorem HP.set {y : Ly} {B n a : Nat} {f : FH} {H H1 : Heap} {X : HC} (h : HP y B n f H) (hz : H1.size = H.size) (ho : ∀ q, q ≠ B + a → H1[q]? = H[q]?) (hX : h_at y B a X H1) : HP y B n (h_u f a X) H1 := by
  refine ⟨by rw [hz, h.1], fun k hk => ?_⟩
  by_cases e : k = a
  · subst e
    rw [h_us]
    exact hX
  · rw [h_un e]
    have h1 := h.2 k hk
    revert h1
    unfold h_at
    split
    · exact fun h1 => h1.kept (ho _ (by omega))
    · exact fun h1 => (ho _ (by omega)).trans h1
    · exact fun h1 => (ho _ (by omega)).trans h1
/-! the judgement -/
abbrev h_A (B : Nat) : Nat → Prop := fun q => B ≤ q
def VC (x : Cx) (y : Ly) (B nL cells slots n : Nat) (f : FH) (pc : Nat) (lv : List (Nat × Value)) (st : List Value) : Prop :=
  ∀ (H : Heap) (locs : List Loc) (ls : Array Slot), HP y B n f H → va_S (h_A B) (cx_s x).heap H locs → lv_has ls nL lv → W x.1 (cx_l x) x.2.2.1 (cx_R x) (cx_s x) (cx_m x) (cx_v x) (cx_b x) (cx_h x) (cx_c x) H locs cells slots (cx_Q x) (F0 (cx_m x) pc ls st)
def VKC (x : Cx) (l : Launch) (R : Room) (y : Ly) (n : Nat) (cc : ByteArray) (own : String) (Ts : List Cond) : Prop :=
  x.1.tables.exec = Jvm.exec ∧ (cx_c x).code = cc ∧ (cx_c x).maxLocals = n ∧ (cx_s x).vm.findClass own = some (cx_m x).cls ∧ (∀ w ∈ Ts, w.before (cx_v x) (cx_s x) = true) ∧ ly_K y (cx_s x) ∧ cx_l x = l ∧ cx_R x = R ∧ ly_N (cx_s x)
def h_M (U : State) : Prop := va_AO "TwoCards$Code" U ∧ va_AO "TwoCards$Quarrel" U ∧ va_AO "TwoCards$Book" U
def h_W (y : Ly) (B n : Nat) (f : FH) (U : State) : Prop := HP y B n f U.heap ∧ ly_K y U ∧ ly_N U ∧ h_M U
abbrev h_P (y : Ly) (B : Nat) (args : List Value) (n : Nat) (f : FH) : Array Value → State → Prop := va_Pc args (h_W y B n f)
def h_E (y : Ly) (B n : Nat) (f : FH) : Array Value → State → Outcome → State → Prop := fun _ st oc t => oc = .returned none ∧ HP y B n f t.heap ∧ va_F (h_A B) st t
def VQC (x : Cx) (y : Ly) (B n : Nat) (f : FH) (mc ms : Nat) : Prop :=
  cx_Q x = MQ (cx_b x) (h_E y B n f) (cx_v x) (cx_s x) mc ms (h_A B) ∧ (cx_h x).sig.returnType = none ∧ (cx_h x).locks = false ∧ (cx_h x).name = "<init>" ∧ h_M (cx_s x)
theorem c_met {l : Launch} {yn : MethodName} {ws ws' : List Cond} {rm : Room} {cc : ByteArray} {maxL mc ms : Nat} {y : Ly} {B n n1 : Nat} {args : List Value} {f f1 : FH}
    (hy : plainName yn.cls = true) (hin : yn.name = "<init>") (hw : ws = Cond.code yn cc maxL none :: ws') (hn : Nat.ble (lg_sl args).length maxL = true)
    (body : ∀ x : Cx, VKC x l rm y maxL cc yn.cls ws → VQC x y B n1 f1 mc ms → VC x y B maxL 0 0 n f 0 (lv_args 0 args) []) : Met l yn ws rm (h_P y B args n f) (h_E y B n1 f1) mc ms (h_A B) := by
  refine Met.ofW (cc := cc) (maxL := maxL) (ret := none) hy hw ?_
  intro p e s m as below meth c s₁ Bd hml hv
  obtain ⟨rfl, hR, hK, hN, hM⟩ := hv
  have hts := atoms_spec (ws := ws) Bd.pre
  have hown : s.vm.findClass yn.cls = some m.cls := findClass_of_methodNamed Bd.named
  have hlocks := Bd.notSynchronized
  rw [lg_entry_eq]
  exact body (p, l, e, rm, s, m, args.toArray, below, meth, c, _) ⟨Bd.exec, Bd.bytes, hml, hown, hts, hK, rfl, rfl, hN⟩ ⟨rfl, Bd.returns, hlocks, (name_of_methodNamed Bd.named Bd.method).1.trans hin, hM⟩ s.heap [] _ hR va_S.rf (lv_entry args (Nat.le_of_ble_eq_true hn))
section VCROWS
variable {x : Cx} {l : Launch} {R : Room} {y : Ly} {B nL cells slots n : Nat} {cc : ByteArray} {own : String} {Ts : List Cond} {f : FH} {pc : Nat} {lv lv' : List (Nat × Value)} {st : List Value}
theorem c_iconst (K : VKC x l R y nL cc own Ts) {k : Int} {v : Int32} (hd : decode cc pc = .ok (.iconst k, 1)) (hv : Int32.ofInt k = v) (kk : VC x y B nL cells slots n f (pc + 1) lv (.int v :: st)) : VC x y B nL cells slots n f pc lv st :=
  fun H locs ls hR hS hl => lv_iconst K.1 K.2.1 hd hv (kk H locs ls hR hS hl)
theorem c_bipush (K : VKC x l R y nL cc own Ts) {k : Int} {v : Int32} (hd : decode cc pc = .ok (.bipush k, 2)) (hv : (Int8.ofInt k).toInt32 = v) (kk : VC x y B nL cells slots n f (pc + 2) lv (.int v :: st)) : VC x y B nL cells slots n f pc lv st :=
  fun H locs ls hR hS hl => lv_bipush K.1 K.2.1 hd hv (kk H locs ls hR hS hl)
theorem c_sipush (K : VKC x l R y nL cc own Ts) {k : Int} {v : Int32} (hd : decode cc pc = .ok (.sipush k, 3)) (hv : (Int16.ofInt k).toInt32 = v) (kk : VC x y B nL cells slots n f (pc + 3) lv (.int v :: st)) : VC x y B nL cells slots n f pc lv st :=
  fun H locs ls hR hS hl => lv_sipush K.1 K.2.1 hd hv (kk H locs ls hR hS hl)
theorem c_iload_n (K : VKC x l R y nL cc own Ts) {k : Fin 4} {v : Int32} (hd : decode cc pc = .ok (.iload_n k, 1)) (p : Nat) (hv : lv[p]? = some ((k : Nat), .int v)) (kk : VC x y B nL cells slots n f (pc + 1) lv (.int v :: st)) : VC x y B nL cells slots n f pc lv st :=
  fun H locs ls hR hS hl => lv_iload_n K.1 K.2.1 hd rfl (lv_at hl p hv) (kk H locs ls hR hS hl)
theorem c_aload_n (K : VKC x l R y nL cc own Ts) {k : Fin 4} {v : Nat} (hd : decode cc pc = .ok (.aload_n k, 1)) (p : Nat) (hv : lv[p]? = some ((k : Nat), .ref v)) (kk : VC x y B nL cells slots n f (pc + 1) lv (.ref v :: st)) : VC x y B nL cells slots n f pc lv st :=
  fun H locs ls hR hS hl => lv_aload_n K.1 K.2.1 hd rfl (lv_at hl p hv) (kk H locs ls hR hS hl)
theorem c_istore_n (K : VKC x l R y nL cc own Ts) {k : Fin 4} {v : Int32} (hd : decode cc pc = .ok (.istore_n k, 1)) (i : Nat) (hi : (k : Nat) = i) (hn : i < nL) (hl' : (i, Value.int v) :: lv.filter (fun q => !(q.1 == i) && !(q.1 + 1 == i && q.2.category == 2)) = lv') (kk : VC x y B nL cells slots n f (pc + 1) lv' st) : VC x y B nL cells slots n f pc lv (.int v :: st) :=
  fun H locs ls hR hS hl => lv_istore_n K.1 K.2.1 hd hi hl hn hl' (fun ls' h' => kk H locs ls' hR hS h')
theorem c_iinc (K : VKC x l R y nL cc own Ts) {i : Nat} {k : Int} {v v1 : Int32} (hd : decode cc pc = .ok (.iinc i k, 3)) (p : Nat) (hv : lv[p]? = some (i, .int v)) (h1 : v + Int32.ofInt k = v1) (hn : i < nL) (hl' : (i, Value.int v1) :: lv.filter (fun q => !(q.1 == i) && !(q.1 + 1 == i && q.2.category == 2)) = lv') (kk : VC x y B nL cells slots n f (pc + 3) lv' st) : VC x y B nL cells slots n f pc lv st :=
  fun H locs ls hR hS hl => lv_iinc K.1 K.2.1 hd hl hv h1 hn hl' (fun ls' h' => kk H locs ls' hR hS h')
theorem c_geT (K : VKC x l R y nL cc own Ts) {v v1 : Int32} {off : Int} (tgt : Nat) (hd : decode cc pc = .ok (.if_icmp .ge off, 3)) (ht : (pc : Int) + off = (tgt : Int)) (h : v1 ≤ v) (kk : VC x y B nL cells slots n f tgt lv st) : VC x y B nL cells slots n f pc lv (.int v1 :: .int v :: st) :=
  fun H locs ls hR hS hl => lv_icmp_ge K.1 K.2.1 hd ht (fun _ => kk H locs ls hR hS hl) (fun q => absurd h q)
theorem c_geF (K : VKC x l R y nL cc own Ts) {v v1 : Int32} {off : Int} (tgt : Nat) (hd : decode cc pc = .ok (.if_icmp .ge off, 3)) (ht : (pc : Int) + off = (tgt : Int)) (h : ¬ v1 ≤ v) (kk : VC x y B nL cells slots n f (pc + 3) lv st) : VC x y B nL cells slots n f pc lv (.int v1 :: .int v :: st) :=
  fun H locs ls hR hS hl => lv_icmp_ge K.1 K.2.1 hd ht (fun q => absurd q h) (fun _ => kk H locs ls hR hS hl)
theorem c_goto (K : VKC x l R y nL cc own Ts) {off : Int} (tgt : Nat) (hd : decode cc pc = .ok (.goto off, 3)) (ht : (pc : Int) + off = (tgt : Int)) (kk : VC x y B nL cells slots n f tgt lv st) : VC x y B nL cells slots n f pc lv st :=
  fun H locs ls hR hS hl => lv_goto K.1 K.2.1 hd ht (kk H locs ls hR hS hl)
theorem c_dup (K : VKC x l R y nL cc own Ts) {v : Value} (hd : decode cc pc = .ok (.dup, 1)) (hc : v.category = 1) (kk : VC x y B nL cells slots n f (pc + 1) lv (v :: v :: st)) : VC x y B nL cells slots n f pc lv (v :: st) :=
  fun H locs ls hR hS hl => lv_dup K.1 K.2.1 hd hc (kk H locs ls hR hS hl)
theorem c_nm {e : FH} {β : Type} {g : FH → β} {z : β} (hF : h_t e g = z) (kk : ∀ f5, f5 = e → g f5 = z → VC x y B nL cells slots n f5 pc lv st) : VC x y B nL cells slots n e pc lv st := kk e rfl hF
theorem c_objInit (K : VKC x l R y nL cc own Ts) {idx a : Nat} (hl0 : Cond.methodLink own idx Lib.objectInit ∈ Ts) (hl1 : Cond.instanceMethod Lib.objectInit ∈ Ts) (hl2 : Cond.code Lib.objectInit ⟨#[0xb1]⟩ 1 none ∈ Ts) (hd : decode cc pc = .ok (.invokespecial idx, 3)) (hf : 1 ≤ R.frames) (hlo : (st.map fun v => v.category).sum + 12 ≤ R.locals) (kk : VC x y B nL cells slots n f (pc + 3) lv st) : VC x y B nL cells slots n f pc lv (.ref a :: st) := by
  intro H locs ls hR hS hl
  have hR0 := K.2.2.2.2.2.2.2.1
  subst hR0
  refine W.objInit K.1 K.2.1 K.2.2.2.1 (K.2.2.2.2.1 _ hl0) (K.2.2.2.2.1 _ hl1) (K.2.2.2.2.1 _ hl2) rfl (by show ls.size = _; rw [hl.1, K.2.2.1]) rfl hd hf ?_ (kk H locs ls hR hS hl)
  show 2 * 0 + _ + 12 ≤ _
  omega
theorem c_new (K : VKC x l R y nL cc own Ts) {idx ci N : Nat} {C : String} {T : u_T} (fs : List (Nat × Nat)) (hc : vwCl[ci]? = some (C, T, N)) (hN : nfl ci = N) (hin : ∀ w ∈ u_ws C T N, w ∈ Ts) (ty : Nat → FieldType) (hty : ∀ k, k < N → parseFieldDescriptor (T k).2.2.1 = some (ty k)) (hlink : Cond.classLink own idx C ∈ Ts) (hinst : Cond.instantiable C N ∈ Ts) (hini : Cond.initialized C ∈ Ts)
    (hdf : ∀ j, j < N → defaultValue (ty j) = h_v B (fs.getD j (2, 0))) (h1 : cells + 1 ≤ R.cells) (h2 : slots + N ≤ R.slots) (hd : decode cc pc = .ok (.new idx, 3)) (kk : VC x y B nL (cells + 1) (slots + N) (n + 1) (h_u f n (0, ci, fs)) (pc + 3) lv (.ref (B + n) :: st)) : VC x y B nL cells slots n f pc lv st := by
  intro H locs ls hR hS hl
  have hR0 := K.2.2.2.2.2.2.2.1
  subst hR0
  have hKn := K.2.2.2.2.2.1.1 ci _ hc
  refine W.newcK K.1 K.2.1 K.2.2.2.1 (K.2.2.2.2.1 _ hlink) (K.2.2.2.2.1 _ hinst) (K.2.2.2.2.1 _ hini) rfl hd h1 h2 hKn.2.1 hR.1 fun H1 kC hkC e1 z1 o1 => ?_
  refine kk H1 locs ls (hR.grow (by rw [z1, hR.1]) (fun q hq => o1 q (by rw [← hR.1]; exact hq)) ?_) ⟨by rw [z1, ← hR.1]; exact Nat.le_succ_of_le hS.1, fun q g1 g2 => (o1 q (by rw [← hR.1]; exact Nat.lt_of_lt_of_le g1 hS.1)).trans (hS.2.1 q g1 g2), hS.2.2⟩ hl
  show t_OB _ _ _ _ _ _
  rw [hN]
  exact (u_born ty K.2.2.2.2.1 hin hKn hkC e1 hty).to hdf
theorem c_newa (K : VKC x l R y nL cc own Ts) {atype : ArrayType} {v : Int32} (k m : Nat) {ty : FieldType} (hty : newarray.typeOf atype = ty) (hk : (ly_t y)[k]? = some (ly_c y k, ty)) (hz : defaultValue ty = h_z k) (hRA : ∀ (U : State) (cA : ClassId), va_RA U cA ty = (U.vm.findClass ("[" ++ ty.toString) = some cA)) (harr : Cond.arrayClass ty ∈ Ts) (hn : ¬ v < 0) (hm : v.toNatClampNeg = m) (hb : m * componentBytes ty ≤ 536870912) (h1 : cells + 1 ≤ R.cells) (h2 : slots + m ≤ R.slots) (hd : decode cc pc = .ok (.newarray atype, 2))
    (kk : VC x y B nL (cells + 1) (slots + m) (n + 1) (h_u f n (1, k, [(0, m)])) (pc + 2) lv (.ref (B + n) :: st)) : VC x y B nL cells slots n f pc lv (.int v :: st) := by
  intro H locs ls hR hS hl
  have hR0 := K.2.2.2.2.2.2.2.1
  subst hR0
  subst hty
  refine va_newaK K.1 K.2.1 (K.2.2.2.2.1 _ harr) rfl hd rfl hn hm hb h1 h2 hR.1 fun H1 cA e1 z1 o1 _ hNm => ?_
  have hcA : cA = ly_c y k := by
    have h3 := (K.2.2.2.2.2.1.2 k _ hk).2
    rw [hRA] at h3
    exact Option.some.inj (hNm.symm.trans h3)
  subst hcA
  refine kk H1 locs ls (hR.grow (by rw [z1, hR.1]) (fun q hq => o1 q (by rw [← hR.1]; exact hq)) ?_) ⟨by rw [z1, ← hR.1]; exact Nat.le_succ_of_le hS.1, fun q g1 g2 => (o1 q (by rw [← hR.1]; exact Nat.lt_of_lt_of_le g1 hS.1)).trans (hS.2.1 q g1 g2), hS.2.2⟩ hl
  show H1[B + n]? = some (arrV (ly_c y k) m (fun _ => h_z k))
  rw [e1, hz]
theorem c_anew (K : VKC x l R y nL cc own Ts) {v : Int32} {idx : Nat} {C : String} (k m : Nat) (hk : (ly_t y)[k]? = some (ly_c y k, .object C)) (hAO : va_AO C (cx_s x)) (hlink : Cond.classLink own idx C ∈ Ts) (hn : ¬ v < 0) (hm : v.toNatClampNeg = m) (hb : m * 4 ≤ 536870912) (h1 : cells + 1 ≤ R.cells) (h2 : slots + m ≤ R.slots) (hd : decode cc pc = .ok (.anewarray idx, 3))
    (kk : VC x y B nL (cells + 1) (slots + m) (n + 1) (h_u f n (2, k, List.replicate m (2, 0))) (pc + 3) lv (.ref (B + n) :: st)) : VC x y B nL cells slots n f pc lv (.int v :: st) := by
  intro H locs ls hR hS hl
  have hR0 := K.2.2.2.2.2.2.2.1
  subst hR0
  subst hm
  refine W.anew K.1 K.2.1 K.2.2.2.1 (K.2.2.2.2.1 _ hlink) (va_AO.use hAO) rfl hd rfl hn hb h1 h2 fun cA kA comp f1 f2 f3 f4 => ?_
  generalize hH1 : H.push ({ cls := cA, slots := Array.replicate v.toNatClampNeg .null, vm := .none } : Cell) = H1
  have z1 : H1.size = H.size + 1 := by rw [← hH1, Array.size_push]
  have e1 : H1[H.size]? = some (arrV cA v.toNatClampNeg (fun _ => .null)) := by rw [← hH1, Array.getElem?_push_size, ← arrV_new]
  have o1 : ∀ q : Nat, q < H.size → H1[q]? = H[q]? := fun q hq => by rw [← hH1, Array.getElem?_push, if_neg (Nat.ne_of_lt hq)]
  have hcA : cA = ly_c y k := by
    obtain ⟨kA', comp', g1, g2, g3, g4⟩ := (K.2.2.2.2.2.1.2 k _ hk).2
    exact Option.some.inj (f1.symm.trans g4)
  subst hcA
  rw [hR.1] at e1
  have hX : h_at y B n (2, k, List.replicate v.toNatClampNeg (2, 0)) H1 := by
    show H1[B + n]? = some (arrV (ly_c y k) (List.replicate v.toNatClampNeg (2, 0)).length (fun i => h_v B ((List.replicate v.toNatClampNeg (2, 0)).getD i (2, 0))))
    rw [e1, List.length_replicate]
    congr 2
    funext i
    have : (List.replicate v.toNatClampNeg ((2, 0) : Nat × Nat)).getD i (2, 0) = (2, 0) := by
      rw [List.getD_eq_getElem?_getD, List.getElem?_replicate]
      split <;> rfl
    rw [this]
    rfl
  have := kk H1 locs ls (hR.grow z1 o1 hX) ⟨by rw [z1]; exact Nat.le_succ_of_le hS.1, fun q g1 g2 => (o1 q (Nat.lt_of_lt_of_le g1 hS.1)).trans (hS.2.1 q g1 g2), hS.2.2⟩ hl
  rw [← hR.1] at this
  exact this
end VCROWS
