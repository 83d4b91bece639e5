/-! THE LAW from its entry, but for what an invariant must say -/
theorem jgL_cons {c1 : Cond} (h : c1 ∈ wsL_law) : GoodIn lw_tbl (c1 :: wsL_law) := fun w hw => by
  have hm : w ∈ wsL_law := (List.mem_cons.mp hw).elim (fun e => e ▸ h) id
  exact ⟨wsL_law_in w hm, good_of_word (jb_in hm)⟩
theorem c_astore_n {x : Cx} {l : Launch} {R : Room} {y : Ly} {B nL cells slots n : Nat} {cc : ByteArray} {own : String} {Ts : List Cond} {f : FH} {pc : Nat} {lv lv' : List (Nat × Value)} {st : List Value} (K : VKC x l R y nL cc own Ts) {k : Fin 4} {v : Nat} (hd : decode cc pc = .ok (.astore_n k, 1)) (i : Nat) (hi : (k : Nat) = i) (hn : i < nL) (hl' : (i, Value.ref v) :: lv.filter (fun q => !(q.1 == i) && !(q.1 + 1 == i && q.2.category == 2)) = lv') (kk : VC x y B nL cells slots n f (pc + 1) lv' st) : VC x y B nL cells slots n f pc lv (.ref v :: st) :=
  fun H locs ls hR hS hl => lv_astore_n K.1 K.2.1 hd hi hl hn hl' (fun ls' h' => kk H locs ls' hR hS h')
theorem u_prim {s : State} {cA : ClassId} {ty : FieldType} {kA : Class} {comp : ClassId} (h2 : s.vm.classes[cA]? = some kA) (h3 : kA.kind = .array comp ty) : ArrOfT s cA ty := fun n z => ⟨fun k h => (by cases h), kA, h2, comp, h3⟩
/-- what the start says of the String constant that Tokens reads -/
theorem law_text {s : State} {b : Nat} (hts : ∀ w ∈ lw_tbl, w.before #[Value.ref b] s = true) (hgv : (Jvm.Cond.and given_1 narrow_1).before #[Value.ref b] s = true) : ∃ c7 c8 : Nat, ∀ A : Nat → Prop, (∀ a : Nat, a < s.heap.size → ¬ A a) → va_O "java/lang/String" c7 A s s.heap ∧ va_OF "java/lang/String" "coder" "B" (.int 0) c7 A s s.heap ∧ va_OF "java/lang/String" "value" "[B" (.ref c8) c7 A s s.heap ∧ va_T .byte c8 146 (fun j => .int (q_bytes.getD j 0)) A s s.heap ∧
    va_Z "java/lang/String" "COMPACT_STRINGS" "Z" (.int 1) A s s.heap ∧ va_Zq "jdk/internal/util/Preconditions" "SIOOBE_FORMATTER" "Ljava/util/function/BiFunction;" A s s.heap ∧ vk_R "TwoCards$Tokens" 63 q_txt c7 s := by
  have hs := flat_of_before _ hgv
  have hex : (Cond.exactly (.string "TwoCards$Tokens" 63) "java/lang/String").before #[Value.ref b] s = true := hs _ (by decide +kernel)
  have hco : (Cond.eq (.field (.string "TwoCards$Tokens" 63) "java/lang/String" "coder" "B") (.int 0)).before #[Value.ref b] s = true := hs _ (by decide +kernel)
  have har : (Cond.arrayOf (.field (.string "TwoCards$Tokens" 63) "java/lang/String" "value" "[B") .byte).before #[Value.ref b] s = true := hs _ (by decide +kernel)
  have hle : (Cond.eq (.length (.field (.string "TwoCards$Tokens" 63) "java/lang/String" "value" "[B")) (.int 146)).before #[Value.ref b] s = true := hs _ (by decide +kernel)
  have helL : (flatC (Jvm.Cond.and given_1 narrow_1)).drop 13 = (List.range 146).map (fun j => Cond.eq (.elem (.field (.string "TwoCards$Tokens" 63) "java/lang/String" "value" "[B") (.int (Int32.ofNat j))) (.int (q_bytes.getD j 0))) := by decide +kernel
  have hel0 : ∀ j, j < 146 → Cond.eq (.elem (.field (.string "TwoCards$Tokens" 63) "java/lang/String" "value" "[B") (.int (Int32.ofNat j))) (.int (q_bytes.getD j 0)) ∈ flatC (Jvm.Cond.and given_1 narrow_1) := fun j hj => List.mem_of_mem_drop (i := 13) (by rw [helL]; exact List.mem_map.mpr ⟨j, List.mem_range.mpr hj, rfl⟩)
  have hcs : (Cond.eq (.static "java/lang/String" "COMPACT_STRINGS" "Z") (.int 1)).before #[Value.ref b] s = true := hs _ (by decide +kernel)
  have hfm : (Cond.isRef (.static "jdk/internal/util/Preconditions" "SIOOBE_FORMATTER" "Ljava/util/function/BiFunction;")).before #[Value.ref b] s = true := hs _ (by decide +kernel)
  have w1 : (Cond.laysStatic "java/lang/String" "COMPACT_STRINGS" "Z").before #[Value.ref b] s = true := hts _ (tm_2 _ (List.mem_of_getElem? (i := 194) rfl))
  have w2 : (Cond.laysStatic "jdk/internal/util/Preconditions" "SIOOBE_FORMATTER" "Ljava/util/function/BiFunction;").before #[Value.ref b] s = true := hts _ (tm_2 _ (List.mem_of_getElem? (i := 210) rfl))
  have w3 : (Cond.initialized "java/lang/String").before #[Value.ref b] s = true := hts _ (tm_1 _ (List.mem_of_getElem? (i := 13) rfl))
  have w4 : (Cond.initialized "jdk/internal/util/Preconditions").before #[Value.ref b] s = true := hts _ (tm_1 _ (List.mem_of_getElem? (i := 15) rfl))
  have w5 : (Cond.stringRef "TwoCards$Tokens" 63 q_txt).before #[Value.ref b] s = true := hts _ (tm_2 _ (List.mem_of_getElem? (i := 184) rfl))
  obtain ⟨a, c, cA, kA, q1, -⟩ := Cond.exactly_spec (args := #[Value.ref b]) (first := s) (o := none) (s := s) (idx := []) (t := .string "TwoCards$Tokens" 63) (cls := "java/lang/String") hex
  have hT : ∀ A : Nat → Prop, (∀ a : Nat, a < s.heap.size → ¬ A a) → ∃ t : Nat, (Term.field (.string "TwoCards$Tokens" 63) "java/lang/String" "value" "[B").eval #[Value.ref b] s none [] s = some (.ref t) ∧ va_T .byte t 146 (fun j => .int (q_bytes.getD j 0)) A s s.heap :=
    fun A hA => va_Tof (N := 146) (f := fun j => .int (q_bytes.getD j 0)) (A := A) (by decide) har (va_eqt hle) (fun j hj => va_eqt (hs _ (hel0 j hj))) hA
  obtain ⟨t, ht, -⟩ := hT (fun _ => False) (fun _ _ h => h)
  refine ⟨a, t, fun A hA => ?_⟩
  obtain ⟨t1, ht1, hT1⟩ := hT A hA
  have e : t1 = t := by
    have h := ht1.symm.trans ht
    cases h
    rfl
  subst e
  exact ⟨va_Oof hex q1 hA, vk_OFof q1 (va_eqt hco) hA, vk_OFof q1 ht1 hA, hT1, va_Zof w1 w3 (va_eqi hcs) hA, va_Zqof w2 w4 hfm hA, vk_R.of w5 q1⟩
/-- what the tables say of the sorts of objects and rows -/
theorem law_known (t7 t8 : Nat) {s : State} {b : Nat} (hts : ∀ w ∈ lw_tbl, w.before #[Value.ref b] s = true) : ∃ (D : va_G) (cs : Nat → ClassId), cs 7 = t7 ∧ cs 8 = t8 ∧ ∀ (B sd : Nat), ly_K (q_ly D B cs sd) s := by
  obtain ⟨c0, i0, h0⟩ := u_known (C := RX0) (T := TX0) (N := 9) (n := 9) hts (fun w h => wsL_law_in w (inlX0 w h)) (hts _ (wsL_law_in _ jw_a_X0))
  obtain ⟨c1, i1, h1⟩ := u_known (C := RX1) (T := TX1) (N := 9) (n := 9) hts (fun w h => wsL_law_in w (inlX1 w h)) (hts _ (wsL_law_in _ jw_a_X1))
  obtain ⟨c2, i2, h2⟩ := u_known (C := RX2) (T := TX2) (N := 12) (n := 12) hts (fun w h => wsL_law_in w (inlX2 w h)) (hts _ (wsL_law_in _ jw_a_X2))
  obtain ⟨c3, i3, h3⟩ := u_known (C := RX3) (T := TX3) (N := 2) (n := 2) hts (fun w h => wsL_law_in w (inlX3 w h)) (hts _ (wsL_law_in _ jw_a_X3))
  obtain ⟨c4, i4, h4⟩ := u_known (C := RX4) (T := TX4) (N := 8) (n := 8) hts (fun w h => wsL_law_in w (inlX4 w h)) (hts _ (wsL_law_in _ jw_a_X4))
  obtain ⟨c5, i5, h5⟩ := u_known (C := RX5) (T := TX5) (N := 6) (n := 6) hts (fun w h => wsL_law_in w (inlX5 w h)) (hts _ (wsL_law_in _ jw_a_X5))
  obtain ⟨c6, i6, h6⟩ := u_known (C := RX6) (T := TX6) (N := 1) (n := 1) hts (fun w h => wsL_law_in w (inlX6 w h)) (hts _ (wsL_law_in _ jw_a_X6))
  obtain ⟨c7, i7, h7⟩ := u_known (C := RX8) (T := TX8) (N := 2) (n := 2) hts (fun w h => wsL_law_in w (inlX8 w h)) (hts _ (wsL_law_in _ jw_a_X8))
  obtain ⟨c8, i8, h8⟩ := u_known (C := RX9) (T := TX9) (N := 4) (n := 4) hts (fun w h => wsL_law_in w (inlX9 w h)) (hts _ (wsL_law_in _ jw_a_X9))
  obtain ⟨c9, i9, h9⟩ := u_known (C := RX10) (T := TX10) (N := 9) (n := 9) hts (fun w h => wsL_law_in w (inlX10 w h)) (hts _ (wsL_law_in _ jw_a_X10))
  obtain ⟨c10, i10, h10⟩ := u_known (C := RX11) (T := TX11) (N := 11) (n := 11) hts (fun w h => wsL_law_in w (inlX11 w h)) (hts _ (wsL_law_in _ jw_a_X11))
  obtain ⟨c11, i11, h11⟩ := u_known (C := RX12) (T := TX12) (N := 46) (n := 46) hts (fun w h => wsL_law_in w (inlX12 w h)) (hts _ (wsL_law_in _ jw_a_X12))
  obtain ⟨a0, k0, m0, p0, r0, s0⟩ := Cond.arrayClass_spec (hts _ (wsL_law_in _ jw_y_int))
  obtain ⟨a1, k1, m1, p1, r1, s1⟩ := Cond.arrayClass_spec (hts _ (wsL_law_in _ jw_y_long))
  obtain ⟨a2, k2, m2, p2, r2, s2⟩ := Cond.arrayClass_spec (hts _ (wsL_law_in _ jw_y_byte))
  obtain ⟨a3, k3, m3, p3, r3, s3⟩ := Cond.arrayClass_spec (hts _ (wsL_law_in _ jw_y_boolean))
  obtain ⟨m4, a4, k4, n4, -, r4, s4, p4⟩ := Cond.arrayOver_spec (hts _ q_AOc)
  obtain ⟨m5, a5, k5, n5, -, r5, s5, p5⟩ := Cond.arrayOver_spec (hts _ q_AOq)
  obtain ⟨m6, a6, k6, n6, -, r6, s6, p6⟩ := Cond.arrayOver_spec (hts _ q_AOb)
  refine ⟨(fun k => [c0, c1, c2, c3, c4, c5, c6, c7, c8, c9, c10, c11].getD k c0, fun k => [i0, i1, i2, i3, i4, i5, i6, i7, i8, i9, i10, i11].getD k i0), fun k => [a0, a1, a2, a3, a4, a5, a6, t7, t8].getD k a0, rfl, rfl, fun B sd => ⟨fun c q hq => ?_, fun k q hq => ?_⟩⟩
  · match c, hq with
    | 0, hq => cases hq; exact h0
    | 1, hq => cases hq; exact h1
    | 2, hq => cases hq; exact h2
    | 3, hq => cases hq; exact h3
    | 4, hq => cases hq; exact h4
    | 5, hq => cases hq; exact h5
    | 6, hq => cases hq; exact h6
    | 7, hq => cases hq; exact h7
    | 8, hq => cases hq; exact h8
    | 9, hq => cases hq; exact h9
    | 10, hq => cases hq; exact h10
    | 11, hq => cases hq; exact h11
    | c + 12, hq => cases hq
  · match k, hq with
    | 0, hq => cases hq; exact ⟨u_prim r0 s0, p0⟩
    | 1, hq => cases hq; exact ⟨u_prim r1 s1, p1⟩
    | 2, hq => cases hq; exact ⟨u_prim r2 s2, p2⟩
    | 3, hq => cases hq; exact ⟨u_prim r3 s3, p3⟩
    | 4, hq => cases hq; exact ⟨u_prim r4 s4, k4, m4, r4, s4, n4, p4⟩
    | 5, hq => cases hq; exact ⟨u_prim r5 s5, k5, m5, r5, s5, n5, p5⟩
    | 6, hq => cases hq; exact ⟨u_prim r6 s6, k6, m6, r6, s6, n6, p6⟩
    | k + 7, hq => cases hq
set_option maxRecDepth 100000 in
set_option maxHeartbeats 8000000 in
theorem whole_open (I : Nat → QM → QM → Prop) (hI0 : I 0 q_M0 q_M0) (hI : ∀ (k : Nat) (M1 M2 : QM) (a : Nat → Int32) (c : Nat), I k M1 M2 → k < 512 → c < 32 → ∃ N1 N2, qL_s c a M1 M2 N1 N2 ∧ I (k + 1) N1 N2)
    {p : Program} {e : Env} {s : State} {m : MethodId} {below : List Frame} {meth : Method} {c : Code} (l : Launch) {b L : Nat} {xs : Nat → Int32} (hL : L ≤ 4608) (C0 : lw_At p s m meth c b L xs) : W p l e room_1 s m #[Value.ref b] below meth c s.heap [] 0 0 (lw_Z below #[Value.ref b] s) (entryFrame m ([Value.ref b] : List Value).toArray 4) := by
  obtain ⟨hx, hb, hr, hml, hown, hts, hX, hbl, hlocks, hgv⟩ := C0
  obtain ⟨c7, c8, hTx⟩ := law_text hts hgv
  obtain ⟨D, cs, e7, e8, hKs⟩ := law_known c7 c8 hts
  have hTy : ∀ y : Ly, ly_c y 7 = c7 → ly_c y 8 = c8 → (∀ q, ly_A y q → s.heap.size ≤ q) → ly_T y s := fun y g7 g8 hA => by
    unfold ly_T
    rw [g7, g8]
    exact hTx _ (fun a h1 h2 => absurd (hA a h2) (Nat.not_le.mpr h1))
  have hN : ly_N s := fun q hq => va_Nw.of rfl (hts _ (q_Nin q hq))
  have hM : h_M s := ⟨va_AO.of (hts _ q_AOc), va_AO.of (hts _ q_AOq), va_AO.of (hts _ q_AOb)⟩
  have hl := lv_entry ([.ref b]) (n := 4) (Nat.le_of_ble_eq_true rfl)
  rw [lg_entry_eq]
  generalize (lg_sl ([.ref b]) ++ List.replicate (4 - (lg_sl ([.ref b])).length) Slot.unset).toArray = ls at hl ⊢
  have hl : lv_has ls 4 [(0, .ref b)] := hl
  have K : VKC (p, l, e, room_1, s, m, #[Value.ref b], below, meth, c, lw_Z below #[Value.ref b] s) l room_1 (q_ly D s.heap.size cs 0) 4 cL_law RL lw_tbl := ⟨hx, hb, hml, hown, hts, hKs _ _, rfl, rfl, hN⟩
  have hM' : h_M (cx_s (p, l, e, room_1, s, m, #[Value.ref b], below, meth, c, lw_Z below #[Value.ref b] s)) := hM
  have hgo : VC (p, l, e, room_1, s, m, #[Value.ref b], below, meth, c, lw_Z below #[Value.ref b] s) (q_ly D s.heap.size cs 0) s.heap.size 4 0 0 0 (fun _ => (0, 0, [])) 0 [(0, .ref b)] [] := by
    refine c_new (pc := 0) (n := 0) (cells := 0) (slots := 0) (ci := 10) (C := RX11) (T := TX11) (N := 11) K [(2, 0), (2, 0), (2, 0), (2, 0), (2, 0), (2, 0), (2, 0), (2, 0), (2, 0), (2, 0), (0, 0)] rfl rfl (fun w h => wsL_law_in w (inlX11 w h)) tyX11 tyX11_ok (wsL_law_in _ jl_L_7) (wsL_law_in _ jw_a_X11) (wsL_law_in _ jw_n_X11) df_X11 (Nat.le_of_ble_eq_true rfl) (Nat.le_of_ble_eq_true rfl) dL_law_0 ?_
    refine c_dup (pc := 3) (n := 1) (cells := 1) (slots := 11) K dL_law_3 rfl ?_
    refine c_callI (pc := 4) (n := 1) (cells := 1) (slots := 11) (b := 0) (n1 := 503) (mc := 502) (ms := 37995) (f1 := q_fX) K (kX11_init l (isO.here rfl) rfl) hM' (jgL_cons jw_c_X11_init) rfl rfl rfl (wsL_law_in _ jw_n_X11) (wsL_law_in _ jl_L_9) (wsL_law_in _ jw_i_X11_init) rfl jd_X11_init ⟨Nat.le_of_ble_eq_true rfl, Nat.le_of_ble_eq_true rfl⟩ (Nat.le_of_ble_eq_true rfl) (Nat.le_of_ble_eq_true rfl) (Nat.le_of_ble_eq_true rfl) dL_law_4 ?_
    refine c_astore_n (pc := 7) (n := 503) (cells := 503) (slots := 38006) (lv' := [(1, .ref (s.heap.size + 0)), (0, .ref b)]) K dL_law_7 1 rfl (by decide) rfl ?_
    refine c_new (pc := 8) (n := 503) (cells := 503) (slots := 38006) (ci := 11) (C := RX12) (T := TX12) (N := 46) K [(0, 0), (2, 0), (2, 0), (2, 0), (0, 0), (0, 0), (2, 0), (2, 0), (2, 0), (2, 0), (2, 0), (2, 0), (2, 0), (2, 0), (0, 0), (0, 0), (0, 0), (0, 0), (0, 0), (0, 0), (2, 0), (0, 0), (2, 0), (2, 0), (0, 0), (0, 0), (2, 0), (2, 0), (0, 0), (0, 0), (2, 0), (0, 0), (0, 0), (0, 0), (0, 0), (0, 0), (2, 0), (2, 0), (2, 0), (2, 0), (2, 0), (2, 0), (0, 0), (2, 0), (2, 0), (2, 0)] rfl rfl (fun w h => wsL_law_in w (inlX12 w h)) tyX12 tyX12_ok (wsL_law_in _ jl_L_10) (wsL_law_in _ jw_a_X12) (wsL_law_in _ jw_n_X12) df_X12 (Nat.le_of_ble_eq_true rfl) (Nat.le_of_ble_eq_true rfl) dL_law_8 ?_
    refine c_dup (pc := 11) (n := 504) (cells := 504) (slots := 38052) K dL_law_11 rfl ?_
    refine c_callI (pc := 12) (n := 504) (cells := 504) (slots := 38052) (b := 503) (n1 := 530) (mc := 26) (ms := 95332) (f1 := q_fM) K (kX12_init l (isO.here rfl) rfl) hM' (jgL_cons jw_c_X12_init) rfl rfl rfl (wsL_law_in _ jw_n_X12) (wsL_law_in _ jl_L_12) (wsL_law_in _ jw_i_X12_init) rfl jd_X12_init ⟨Nat.le_of_ble_eq_true rfl, Nat.le_of_ble_eq_true rfl⟩ (Nat.le_of_ble_eq_true rfl) (Nat.le_of_ble_eq_true rfl) (Nat.le_of_ble_eq_true rfl) dL_law_12 ?_
    refine c_astore_n (pc := 15) (n := 530) (cells := 530) (slots := 133384) (lv' := [(2, .ref (s.heap.size + 503)), (1, .ref (s.heap.size + 0)), (0, .ref b)]) K dL_law_15 2 rfl (by decide) rfl ?_
    refine c_iconst (pc := 16) (n := 530) (cells := 530) (slots := 133384) (v := 0) K dL_law_16 rfl ?_
    refine c_istore_n (pc := 17) (n := 530) (cells := 530) (slots := 133384) (lv' := [(3, .int 0), (2, .ref (s.heap.size + 503)), (1, .ref (s.heap.size + 0)), (0, .ref b)]) K dL_law_17 3 rfl (by decide) rfl ?_
    have KL : VKL (p, l, e, room_1, s, m, #[Value.ref b], below, meth, c, lw_Z below #[Value.ref b] s) l (q_ly D s.heap.size cs 0) (q_ly D s.heap.size cs 1) b L xs := by
      refine ⟨hx, hb, hml, hown, hts, hKs _ _, hKs _ _, hN, q_lJ0, q_lJ1, rfl, rfl, hX, hbl, fun q hq => (q_I0 q hq).1, fun q hq => Nat.le_trans (Nat.le_add_right _ _) (q_I1 q hq).1, fun q h1 h2 => ?_, rfl, rfl, hTy _ e7 e8 (fun q hq => (q_I0 q hq).1), hTy _ e7 e8 (fun q hq => Nat.le_trans (Nat.le_add_right _ _) (q_I1 q hq).1)⟩
      have g1 := (q_I0 q h1).2
      have g2 := (q_I1 q h2).1
      omega
    intro H locs ls hP hS hl
    refine l_loop wsL_law_in KL hL ⟨by decide, by decide⟩ I hI ?_ (L + 1) 0 q_M0 q_M0 0 (Nat.zero_le _) (by omega) hI0 rfl H locs ls (q_rep0 hP) (q_rep1 hP) hS (lv_sub hl [3, 2, 1, 0] rfl)
    intro M1 M2 lv H locs ls g1 g2 hS hl
    refine l_iconst (pc := 1294) (v := 1) KL dL_law_1294 rfl (M1 := M1) (M2 := M2) ?_ H locs ls g1 g2 hS hl
    intro H locs ls g1 g2 hS hl
    refine va_forget hS.2.2 ?_
    refine W.widen (k := 600000) (n := 7302250) (by decide) (by decide) ?_
    exact lw_ret hx hb hr hlocks dL_law_1295
  exact hgo s.heap [] ls ⟨rfl, fun k hk => absurd hk (Nat.not_lt_zero k)⟩ va_S.rf hl
