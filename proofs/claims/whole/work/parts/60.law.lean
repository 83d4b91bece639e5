/-! THE LAW: two memories side by side, the script -/
def ly_I (y : Ly) (B m n : Nat) : Prop := ∀ q, ly_A y q → B + m ≤ q ∧ q < B + n
theorem q_I0 {D : va_G} {B : Nat} {cs : Nat → ClassId} : ly_I (q_ly D B cs 0) B 0 503 := by
  rintro q (⟨o, ho, rfl⟩ | ⟨o, j, ho, hj, hf, rfl⟩)
  · have h := (q_Io o (kls_lt (q_side0 ho)) (q_side0 ho)).2
    exact ⟨Nat.le_add_right _ _, Nat.add_lt_add_left h B⟩
  · have h := (q_Ia o (kls_lt (q_side0 ho)) (q_side0 ho) j hj hf).2
    exact ⟨Nat.le_add_right _ _, Nat.add_lt_add_left h B⟩
theorem q_I1 {D : va_G} {B : Nat} {cs : Nat → ClassId} : ly_I (q_ly D B cs 1) B 503 530 := by
  rintro q (⟨o, ho, rfl⟩ | ⟨o, j, ho, hj, hf, rfl⟩)
  · obtain rfl := kls_11 (q_side1 ho)
    exact ⟨Nat.add_le_add_left (by decide) B, Nat.add_lt_add_left (by decide) B⟩
  · obtain rfl := kls_11 (q_side1 ho)
    exact ⟨Nat.add_le_add_left (q_Ja j hj hf).2.1 B, Nat.add_lt_add_left (q_Ja j hj hf).2.2 B⟩
theorem rep_lt {y : Ly} {M : QM} {H : Heap} (h : Rep y M H) {q : Nat} (hq : ly_A y q) : q < H.size := by
  rcases hq with ⟨o, ho, rfl⟩ | ⟨o, j, ho, hj, hf, rfl⟩
  · obtain ⟨cell, h1, -⟩ := h.1 o ho
    exact (Array.getElem?_eq_some_iff.mp h1).1
  · exact (Array.getElem?_eq_some_iff.mp (h.2.1 o j ho hj hf)).1
def VL (x : Cx) (y1 y2 : Ly) (cells slots : Nat) (M1 M2 : QM) (pc : Nat) (lv : List (Nat × Value)) (st : List Value) : Prop :=
  ∀ (H : Heap) (locs : List Loc) (ls : Array Slot), Rep y1 M1 H → Rep y2 M2 H → va_S (h_A (cx_s x).heap.size) (cx_s x).heap H locs → lv_has ls 4 lv → W x.1 (cx_l x) x.2.2.1 (cx_R x) (cx_s x) (cx_m x) (cx_v x) (cx_b x) (cx_h x) (cx_c x) H locs cells slots (cx_Q x) (F0 (cx_m x) pc ls st)
def VKL (x : Cx) (l : Launch) (y1 y2 : Ly) (b L : Nat) (xs : Nat → Int32) : Prop :=
  x.1.tables.exec = Jvm.exec ∧ (cx_c x).code = cL_law ∧ (cx_c x).maxLocals = 4 ∧ (cx_s x).vm.findClass RL = some (cx_m x).cls ∧ (∀ w ∈ lw_tbl, w.before (cx_v x) (cx_s x) = true) ∧ ly_K y1 (cx_s x) ∧ ly_K y2 (cx_s x) ∧ ly_N (cx_s x) ∧ ly_J y1 ∧ ly_J y2 ∧ cx_l x = l ∧ cx_R x = room_1 ∧ va_X b L xs (cx_s x) (cx_s x).heap ∧ b < (cx_s x).heap.size ∧
  (∀ q, ly_A y1 q → (cx_s x).heap.size ≤ q) ∧ (∀ q, ly_A y2 q → (cx_s x).heap.size ≤ q) ∧ (∀ q, ly_A y1 q → ly_A y2 q → False) ∧ y1.2.2.2.2 = 0 ∧ y2.2.2.2.2 = 1 ∧ ly_T y1 (cx_s x) ∧ ly_T y2 (cx_s x)
theorem jg_L {own C : String} {idx maxL : Nat} {y : MethodName} {b : ByteArray} {ret : Option FieldType} (hin : ∀ w ∈ wsL_law, w ∈ lw_tbl) (h1 : Cond.methodLink own idx y ∈ wsL_law) (h2 : Cond.instanceMethod y ∈ wsL_law) (h3 : Cond.selects C y y ∈ wsL_law) (h4 : Cond.initialized C ∈ wsL_law) (h5 : Cond.code y b maxL ret ∈ wsL_law) : GoodIn lw_tbl (wsV own idx C y (Cond.code y b maxL ret :: wsL_law)) := by
  intro w hw
  have hm : w ∈ wsL_law := by
    rcases List.mem_append.mp hw with h | h
    · simp only [List.mem_cons, List.not_mem_nil, or_false] at h
      rcases h with rfl | rfl | rfl | rfl <;> assumption
    · exact (List.mem_cons.mp h).elim (fun e => e ▸ h5) id
  exact ⟨hin w hm, good_of_word (jb_in hm)⟩
section VLROWS
variable {x : Cx} {l : Launch} {y1 y2 : Ly} {b L : Nat} {xs : Nat → Int32} {cells slots : Nat} {M1 M2 : QM} {pc : Nat} {lv lv' : List (Nat × Value)} {st : List Value}
theorem l_iconst (K : VKL x l y1 y2 b L xs) {k : Int} {v : Int32} (hd : decode cL_law pc = .ok (.iconst k, 1)) (hv : Int32.ofInt k = v) (kk : VL x y1 y2 cells slots M1 M2 (pc + 1) lv (.int v :: st)) : VL x y1 y2 cells slots M1 M2 pc lv st :=
  fun H locs ls h1 h2 hS hl => lv_iconst K.1 K.2.1 hd hv (kk H locs ls h1 h2 hS hl)
theorem l_bipush (K : VKL x l y1 y2 b L xs) {k : Int} {v : Int32} (hd : decode cL_law pc = .ok (.bipush k, 2)) (hv : (Int8.ofInt k).toInt32 = v) (kk : VL x y1 y2 cells slots M1 M2 (pc + 2) lv (.int v :: st)) : VL x y1 y2 cells slots M1 M2 pc lv st :=
  fun H locs ls h1 h2 hS hl => lv_bipush K.1 K.2.1 hd hv (kk H locs ls h1 h2 hS hl)
theorem l_iload_n (K : VKL x l y1 y2 b L xs) {k : Fin 4} {v : Int32} (hd : decode cL_law pc = .ok (.iload_n k, 1)) (p : Nat) (hv : lv[p]? = some ((k : Nat), .int v)) (kk : VL x y1 y2 cells slots M1 M2 (pc + 1) lv (.int v :: st)) : VL x y1 y2 cells slots M1 M2 pc lv st :=
  fun H locs ls h1 h2 hS hl => lv_iload_n K.1 K.2.1 hd rfl (lv_at hl p hv) (kk H locs ls h1 h2 hS hl)
theorem l_aload_n (K : VKL x l y1 y2 b L xs) {k : Fin 4} {v : Nat} (hd : decode cL_law pc = .ok (.aload_n k, 1)) (p : Nat) (hv : lv[p]? = some ((k : Nat), .ref v)) (kk : VL x y1 y2 cells slots M1 M2 (pc + 1) lv (.ref v :: st)) : VL x y1 y2 cells slots M1 M2 pc lv st :=
  fun H locs ls h1 h2 hS hl => lv_aload_n K.1 K.2.1 hd rfl (lv_at hl p hv) (kk H locs ls h1 h2 hS hl)
theorem l_iadd (K : VKL x l y1 y2 b L xs) {v v1 : Int32} (hd : decode cL_law pc = .ok (.iadd, 1)) (kk : VL x y1 y2 cells slots M1 M2 (pc + 1) lv (.int (v + v1) :: st)) : VL x y1 y2 cells slots M1 M2 pc lv (.int v1 :: .int v :: st) :=
  fun H locs ls h1 h2 hS hl => lv_iadd K.1 K.2.1 hd (kk H locs ls h1 h2 hS hl)
theorem l_isub (K : VKL x l y1 y2 b L xs) {v v1 : Int32} (hd : decode cL_law pc = .ok (.isub, 1)) (kk : VL x y1 y2 cells slots M1 M2 (pc + 1) lv (.int (v - v1) :: st)) : VL x y1 y2 cells slots M1 M2 pc lv (.int v1 :: .int v :: st) :=
  fun H locs ls h1 h2 hS hl => lv_isub K.1 K.2.1 hd (kk H locs ls h1 h2 hS hl)
theorem l_iand (K : VKL x l y1 y2 b L xs) {v v1 : Int32} (hd : decode cL_law pc = .ok (.iand, 1)) (kk : VL x y1 y2 cells slots M1 M2 (pc + 1) lv (.int (v &&& v1) :: st)) : VL x y1 y2 cells slots M1 M2 pc lv (.int v1 :: .int v :: st) :=
  fun H locs ls h1 h2 hS hl => lv_iand K.1 K.2.1 hd (kk H locs ls h1 h2 hS hl)
theorem l_lcmp (K : VKL x l y1 y2 b L xs) {v v1 : Int64} (hd : decode cL_law pc = .ok (.lcmp, 1)) (kk : VL x y1 y2 cells slots M1 M2 (pc + 1) lv (.int (lg_cmp v v1) :: st)) : VL x y1 y2 cells slots M1 M2 pc lv (.long v1 :: .long v :: st) :=
  fun H locs ls h1 h2 hS hl => W.lcmp K.1 K.2.1 hd (kk H locs ls h1 h2 hS hl)
theorem l_gtT (K : VKL x l y1 y2 b L xs) {v v1 : Int32} {off : Int} (tgt : Nat) (hd : decode cL_law pc = .ok (.if_icmp .gt off, 3)) (ht : (pc : Int) + off = (tgt : Int)) (h : v1 < v) (kk : VL x y1 y2 cells slots M1 M2 tgt lv st) : VL x y1 y2 cells slots M1 M2 pc lv (.int v1 :: .int v :: st) :=
  fun H locs ls h1 h2 hS hl => lv_icmp_gt K.1 K.2.1 hd ht (fun _ => kk H locs ls h1 h2 hS hl) (fun q => absurd h q)
theorem l_gtF (K : VKL x l y1 y2 b L xs) {v v1 : Int32} {off : Int} (tgt : Nat) (hd : decode cL_law pc = .ok (.if_icmp .gt off, 3)) (ht : (pc : Int) + off = (tgt : Int)) (h : ¬ (v1 < v)) (kk : VL x y1 y2 cells slots M1 M2 (pc + 3) lv st) : VL x y1 y2 cells slots M1 M2 pc lv (.int v1 :: .int v :: st) :=
  fun H locs ls h1 h2 hS hl => lv_icmp_gt K.1 K.2.1 hd ht (fun q => absurd q h) (fun _ => kk H locs ls h1 h2 hS hl)
theorem l_eqT (K : VKL x l y1 y2 b L xs) {v v1 : Int32} {off : Int} (tgt : Nat) (hd : decode cL_law pc = .ok (.if_icmp .eq off, 3)) (ht : (pc : Int) + off = (tgt : Int)) (h : v = v1) (kk : VL x y1 y2 cells slots M1 M2 tgt lv st) : VL x y1 y2 cells slots M1 M2 pc lv (.int v1 :: .int v :: st) :=
  fun H locs ls h1 h2 hS hl => lv_icmp_eq K.1 K.2.1 hd ht (fun _ => kk H locs ls h1 h2 hS hl) (fun q => absurd h q)
theorem l_eqF (K : VKL x l y1 y2 b L xs) {v v1 : Int32} {off : Int} (tgt : Nat) (hd : decode cL_law pc = .ok (.if_icmp .eq off, 3)) (ht : (pc : Int) + off = (tgt : Int)) (h : ¬ (v = v1)) (kk : VL x y1 y2 cells slots M1 M2 (pc + 3) lv st) : VL x y1 y2 cells slots M1 M2 pc lv (.int v1 :: .int v :: st) :=
  fun H locs ls h1 h2 hS hl => lv_icmp_eq K.1 K.2.1 hd ht (fun q => absurd q h) (fun _ => kk H locs ls h1 h2 hS hl)
theorem l_ifeqT (K : VKL x l y1 y2 b L xs) {v : Int32} {off : Int} (tgt : Nat) (hd : decode cL_law pc = .ok (.ifCond .eq off, 3)) (ht : (pc : Int) + off = (tgt : Int)) (h : v = 0) (kk : VL x y1 y2 cells slots M1 M2 tgt lv st) : VL x y1 y2 cells slots M1 M2 pc lv (.int v :: st) :=
  fun H locs ls h1 h2 hS hl => lv_if_eq K.1 K.2.1 hd ht (fun _ => kk H locs ls h1 h2 hS hl) (fun q => absurd h q)
theorem l_ifeqF (K : VKL x l y1 y2 b L xs) {v : Int32} {off : Int} (tgt : Nat) (hd : decode cL_law pc = .ok (.ifCond .eq off, 3)) (ht : (pc : Int) + off = (tgt : Int)) (h : ¬ v = 0) (kk : VL x y1 y2 cells slots M1 M2 (pc + 3) lv st) : VL x y1 y2 cells slots M1 M2 pc lv (.int v :: st) :=
  fun H locs ls h1 h2 hS hl => lv_if_eq K.1 K.2.1 hd ht (fun q => absurd q h) (fun _ => kk H locs ls h1 h2 hS hl)
theorem l_goto (K : VKL x l y1 y2 b L xs) {off : Int} (tgt : Nat) (hd : decode cL_law pc = .ok (.goto off, 3)) (ht : (pc : Int) + off = (tgt : Int)) (kk : VL x y1 y2 cells slots M1 M2 tgt lv st) : VL x y1 y2 cells slots M1 M2 pc lv st :=
  fun H locs ls h1 h2 hS hl => lv_goto K.1 K.2.1 hd ht (kk H locs ls h1 h2 hS hl)
theorem l_iinc (K : VKL x l y1 y2 b L xs) {i : Nat} {k : Int} {v v1 : Int32} (hd : decode cL_law pc = .ok (.iinc i k, 3)) (p : Nat) (hv : lv[p]? = some (i, .int v)) (h1 : v + Int32.ofInt k = v1) (hn : i < 4) (hl' : (i, Value.int v1) :: lv.filter (fun q => !(q.1 == i) && !(q.1 + 1 == i && q.2.category == 2)) = lv') (kk : VL x y1 y2 cells slots M1 M2 (pc + 3) lv' st) : VL x y1 y2 cells slots M1 M2 pc lv st :=
  fun H locs ls g1 g2 hS hl => lv_iinc K.1 K.2.1 hd hl hv h1 hn hl' (fun ls' h' => kk H locs ls' g1 g2 hS h')
theorem l_sub (ks : List Nat) (h : lv_pick lv ks = lv') (kk : VL x y1 y2 cells slots M1 M2 pc lv' st) : VL x y1 y2 cells slots M1 M2 pc lv st :=
  fun H locs ls g1 g2 hS hl => kk H locs ls g1 g2 hS (lv_sub hl ks h)
theorem l_tabE (K : VKL x l y1 y2 b L xs) {dflt lo hi : Int} {offs : Array Int} {len : Nat} {v k : Int32} {off : Int} (tgt : Nat) (hv : v = k) (hd : decode cL_law pc = .ok (.tableswitch dflt lo hi offs, len)) (h1 : ¬ k.toInt < lo) (h2 : ¬ hi < k.toInt) (ho : offs[(k.toInt - lo).toNat]? = some off) (ht : (pc : Int) + off = (tgt : Int)) (kk : VL x y1 y2 cells slots M1 M2 tgt lv st) : VL x y1 y2 cells slots M1 M2 pc lv (.int v :: st) :=
  fun H locs ls g1 g2 hS hl => lv_tableIn K.1 K.2.1 hd (by rw [hv]; exact h1) (by rw [hv]; exact h2) (by rw [hv]; exact ho) ht (kk H locs ls g1 g2 hS hl)
theorem l_sld (K : VKL x l y1 y2 b L xs) {i : Int32} (n : Nat) (hi : vp_in i L) (hn : i.toNatClampNeg = n) (hd : decode cL_law pc = .ok (.iaload, 1)) (kk : VL x y1 y2 cells slots M1 M2 (pc + 1) lv (.int (xs n) :: st)) : VL x y1 y2 cells slots M1 M2 pc lv (.int i :: .ref b :: st) := by
  intro H locs ls g1 g2 hS hl
  obtain ⟨hx, hb, hml, hown, hts, hK1, hK2, hN, hJ1, hJ2, hl0, hR0, hX, hbl, -⟩ := K
  exact va_sld hx hb hX hbl (Nat.not_le.mpr hbl) hS hi hd (by rw [hn]; exact kk H locs ls g1 g2 hS hl)
theorem l_slen (K : VKL x l y1 y2 b L xs) (hd : decode cL_law pc = .ok (.arraylength, 1)) (kk : VL x y1 y2 cells slots M1 M2 (pc + 1) lv (.int (nI L) :: st)) : VL x y1 y2 cells slots M1 M2 pc lv (.ref b :: st) := by
  intro H locs ls g1 g2 hS hl
  obtain ⟨hx, hb, hml, hown, hts, hK1, hK2, hN, hJ1, hJ2, hl0, hR0, hX, hbl, -⟩ := K
  exact va_slen hx hb hX hbl (Nat.not_le.mpr hbl) hS hd (kk H locs ls g1 g2 hS hl)
theorem l_call1 (K : VKL x l y1 y2 b L xs) {yn : MethodName} {bytes : ByteArray} {maxL nA idx N : Nat} {ret : Option FieldType} {ws ws' : List Cond} {rm : Room} {C : String} {T : u_T} {As rest : List Value} {r : Value} {N1 : QM} {st' : List Value}
    (hM : Met l yn ws rm (q_P y1 (.ref (ly_o y1 0) :: As) M1) (q_E y1 (some r) N1) 0 0 (ly_A y1)) (hG : GoodIn lw_tbl (wsV RL idx C yn ws)) (hw : ws = Cond.code yn bytes maxL ret :: ws') (hrc : rm.cells = 0) (hrs : rm.slots = 0)
    (hdd : yn.cls = C ∧ yn.cls ≠ "java/lang/invoke/MethodHandle" ∧ yn.cls ≠ "java/lang/invoke/VarHandle" ∧ (parseMethodDescriptor yn.desc).map (fun d => d.parameters.length) = some nA) (hRm : rm.frames + 1 ≤ 2048 ∧ 8 + (maxL + 11) + rm.locals ≤ 84000)
    (hn : As.length = nA) (hst : st = As.reverse ++ .ref (ly_o y1 0) :: rest) (hcat : (rest.map fun v => v.category).sum ≤ 8) (hc : vwCl[10]? = some (C, T, N)) (hcs : cells ≤ 600000 ∧ slots ≤ 7302250) (hd : decode cL_law pc = .ok (.invokevirtual idx, 3))
    (hst' : r :: rest = st') (kk : VL x y1 y2 cells slots N1 M2 (pc + 3) lv st') : VL x y1 y2 cells slots M1 M2 pc lv st := by
  subst hst'
  intro H locs ls g1 g2 hS hl
  obtain ⟨hx, hb, hml, hown, hts, hK1, hK2, hN, hJ1, hJ2, hl0, hR0, hX, hbl, hA1, hA2, hdis, hs1, hs2, hT1, hT2⟩ := K
  subst hl0
  obtain ⟨cell, q1, q2, q3, -⟩ := g1.1 0 ((okc_0 (c := 10) hs1 (by decide))  0 (by decide))
  have hR1 : room_1 = cx_R x := hR0.symm
  have hrun := va_runV (p := x.1) (l := cx_l x) (e := x.2.2.1) (R := cx_R x) (s := cx_s x) (m := cx_m x) (args := cx_v x) (below := cx_b x) (meth := cx_h x) (c := cx_c x) (H := H) (locs := locs) (cells := cells) (slots := slots) (g := F0 (cx_m x) pc ls st) (As := As) (rest := rest) (b := ly_o y1 0) ⟨hx, hb, hml, hown, hts⟩ hM (cwV nA hts hG hw hrc hrs hdd (by rw [hR0]; exact hRm)) ⟨q_blind, ⟨cell, q1, by rw [q3]; rfl, by rw [q2]; exact (hK1.1 10 _ hc).2.1⟩, fun U hU hW => ⟨rfl, by rw [hU]; exact g1, va_K.moved hW.alike hK1, fun q hq => va_Nw.warmM hW (hN q hq), ly_T.step hT1 hW (fun q h1 h2 => by rw [hU]; exact hS.2.1 q h1 (Nat.not_le.mpr h1))⟩⟩ rfl hn hl.1 hst (lv_room hcat) hd (by rw [hR0]; exact hcs)
  intro T hT X
  obtain ⟨v, st₀, t, T', Lc, h0, X', hL, e1, e2, ⟨hv, hR2, hz, hk⟩, stp⟩ := hrun T hT X
  cases hv
  rw [h0] at hz hk
  have hoth : Rep y2 M2 T'.heap := rep_kept g2 (fun q hq => by rw [e1]; exact hk q (rep_lt g2 hq) (fun z => hdis q z hq))
  have hown2 : Rep y1 N1 T'.heap := by rw [e1]; exact hR2
  obtain ⟨t2, a1, b1⟩ := kk T'.heap (locs ++ Lc) ls hown2 hoth
    ⟨Nat.le_trans hS.1 (by rw [e1]; exact hz), fun q h1 h2 => by rw [e1, hk q (Nat.lt_of_lt_of_le h1 hS.1) (fun z => h2 (hA1 q z))]; exact hS.2.1 q h1 h2, fun q hq => by
      rcases List.mem_append.mp hq with h | h
      · exact hS.2.2 q h
      · exact hA1 _ (hL q h)⟩ hl T' rfl X'
  exact ⟨t2, stp t2 a1, b1⟩
theorem l_call2 (K : VKL x l y1 y2 b L xs) {yn : MethodName} {bytes : ByteArray} {maxL nA idx N : Nat} {ret : Option FieldType} {ws ws' : List Cond} {rm : Room} {C : String} {T : u_T} {As rest : List Value} {r : Value} {N1 : QM} {st' : List Value}
    (hM : Met l yn ws rm (q_P y2 (.ref (ly_o y2 1000) :: As) M2) (q_E y2 (some r) N1) 0 0 (ly_A y2)) (hG : GoodIn lw_tbl (wsV RL idx C yn ws)) (hw : ws = Cond.code yn bytes maxL ret :: ws') (hrc : rm.cells = 0) (hrs : rm.slots = 0)
    (hdd : yn.cls = C ∧ yn.cls ≠ "java/lang/invoke/MethodHandle" ∧ yn.cls ≠ "java/lang/invoke/VarHandle" ∧ (parseMethodDescriptor yn.desc).map (fun d => d.parameters.length) = some nA) (hRm : rm.frames + 1 ≤ 2048 ∧ 8 + (maxL + 11) + rm.locals ≤ 84000)
    (hn : As.length = nA) (hst : st = As.reverse ++ .ref (ly_o y2 1000) :: rest) (hcat : (rest.map fun v => v.category).sum ≤ 8) (hc : vwCl[11]? = some (C, T, N)) (hcs : cells ≤ 600000 ∧ slots ≤ 7302250) (hd : decode cL_law pc = .ok (.invokevirtual idx, 3))
    (hst' : r :: rest = st') (kk : VL x y1 y2 cells slots M1 N1 (pc + 3) lv st') : VL x y1 y2 cells slots M1 M2 pc lv st := by
  subst hst'
  intro H locs ls g1 g2 hS hl
  obtain ⟨hx, hb, hml, hown, hts, hK1, hK2, hN, hJ1, hJ2, hl0, hR0, hX, hbl, hA1, hA2, hdis, hs1, hs2, hT1, hT2⟩ := K
  subst hl0
  obtain ⟨cell, q1, q2, q3, -⟩ := g2.1 1000 ((okc_1 hs2) 1000 (by decide))
  have hR1 : room_1 = cx_R x := hR0.symm
  have hrun := va_runV (p := x.1) (l := cx_l x) (e := x.2.2.1) (R := cx_R x) (s := cx_s x) (m := cx_m x) (args := cx_v x) (below := cx_b x) (meth := cx_h x) (c := cx_c x) (H := H) (locs := locs) (cells := cells) (slots := slots) (g := F0 (cx_m x) pc ls st) (As := As) (rest := rest) (b := ly_o y2 1000) ⟨hx, hb, hml, hown, hts⟩ hM (cwV nA hts hG hw hrc hrs hdd (by rw [hR0]; exact hRm)) ⟨q_blind, ⟨cell, q1, by rw [q3]; rfl, by rw [q2]; exact (hK2.1 11 _ hc).2.1⟩, fun U hU hW => ⟨rfl, by rw [hU]; exact g2, va_K.moved hW.alike hK2, fun q hq => va_Nw.warmM hW (hN q hq), ly_T.step hT2 hW (fun q h1 h2 => by rw [hU]; exact hS.2.1 q h1 (Nat.not_le.mpr h1))⟩⟩ rfl hn hl.1 hst (lv_room hcat) hd (by rw [hR0]; exact hcs)
  intro T hT X
  obtain ⟨v, st₀, t, T', Lc, h0, X', hL, e1, e2, ⟨hv, hR2, hz, hk⟩, stp⟩ := hrun T hT X
  cases hv
  rw [h0] at hz hk
  have hoth : Rep y1 M1 T'.heap := rep_kept g1 (fun q hq => by rw [e1]; exact hk q (rep_lt g1 hq) (fun z => hdis q hq z))
  have hown2 : Rep y2 N1 T'.heap := by rw [e1]; exact hR2
  obtain ⟨t2, a1, b1⟩ := kk T'.heap (locs ++ Lc) ls hoth hown2
    ⟨Nat.le_trans hS.1 (by rw [e1]; exact hz), fun q h1 h2 => by rw [e1, hk q (Nat.lt_of_lt_of_le h1 hS.1) (fun z => h2 (hA2 q z))]; exact hS.2.1 q h1 h2, fun q hq => by
      rcases List.mem_append.mp hq with h | h
      · exact hS.2.2 q h
      · exact hA2 _ (hL q h)⟩ hl T' rfl X'
  exact ⟨t2, stp t2 a1, b1⟩
end VLROWS
