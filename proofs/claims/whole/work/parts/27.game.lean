theorem jd_X3_settle : yX3_settle.cls = RX3 ∧ yX3_settle.cls ≠ "java/lang/invoke/MethodHandle" ∧ yX3_settle.cls ≠ "java/lang/invoke/VarHandle" ∧ (parseMethodDescriptor yX3_settle.desc).map (fun d => d.parameters.length) = some 3 := by decide +kernel
abbrev rmX3_settle (d : Nat) : Room := { frames := 1 * d + 7, cells := 0, slots := 0, locals := 30 * d + 189 }
abbrev wqX3_settle : List Cond := .code yX3_settle cX3_settle 11 (some .int) :: wsL_law
-- ===== X3_begin ()V
theorem jd_X3_begin : yX3_begin.cls = RX3 ∧ yX3_begin.cls ≠ "java/lang/invoke/MethodHandle" ∧ yX3_begin.cls ≠ "java/lang/invoke/VarHandle" ∧ (parseMethodDescriptor yX3_begin.desc).map (fun d => d.parameters.length) = some 0 := by decide +kernel
abbrev wqX3_begin : List Cond := .code yX3_begin cX3_begin 1 none :: wsL_law
abbrev rmX3_begin : Room := { frames := 0, cells := 0, slots := 0, locals := 0 }
def fX3_begin (M : QM) : Option QM := (q_t (p_i M 5 1 ((q_i M 5 1) + (1 : Int32))) fun M1 => some M1)
set_option maxRecDepth 100000 in
set_option maxHeartbeats 4000000 in
theorem bX3_begin_0 {x : Cx} {y : Ly} (l : Launch) (K : VK x l rmX3_begin y 1 cX3_begin RX3 wqX3_begin) (hy : y.2.2.2.2 = 0) {z : QM} (hQ : VQ x y none z none) {M : QM} (hF : fX3_begin M  = some z) : V x y 1 M 0 [(0, .ref (ly_o y 5))] [] := by
  unfold fX3_begin at hF
  refine v_aload_n (pc := 0) K dX3_begin_0 0 rfl ?_
  refine v_dup (pc := 1) K dX3_begin_1 rfl ?_
  refine gX3_mark (pc := 2) K hy (by decide) jn_X3 (List.mem_cons_of_mem _ jl_X3_15) dX3_begin_2 ?_
  refine v_iconst (pc := 5) (v := 1) K dX3_begin_5 rfl ?_
  refine v_iadd (pc := 6) K dX3_begin_6 ?_
  refine pX3_mark (pc := 7) K hy (by decide) jn_X3 (List.mem_cons_of_mem _ jl_X3_15) dX3_begin_7 ?_
  refine v_nmM hF (fun M1 hF => ?_)
  have hz := (Option.some.inj hF).symm
  subst hz
  exact v_vret (pc := 10) K hQ dX3_begin_10
set_option maxRecDepth 100000 in
set_option maxHeartbeats 4000000 in
theorem kX3_begin (l : Launch) {y : Ly} (hJ : ly_J y) (hy : y.2.2.2.2 = 0) {M M1 : QM} (hF : fX3_begin M  = some M1) : Met l yX3_begin wqX3_begin rmX3_begin (q_P y [.ref (ly_o y 5)] M) (q_E y none M1) 0 0 (ly_A y) :=
  q_met (by decide) rfl hJ rfl rfl rfl (fun x K hQ => bX3_begin_0 l K hy (z := M1) hQ  hF)
-- ===== X3_worthOf (II)I
theorem jd_X3_worthOf : yX3_worthOf.cls ≠ "java/lang/invoke/MethodHandle" ∧ yX3_worthOf.cls ≠ "java/lang/invoke/VarHandle" ∧ (parseMethodDescriptor yX3_worthOf.desc).map (fun d => d.parameters.length) = some 2 := by decide +kernel
abbrev wqX3_worthOf : List Cond := .code yX3_worthOf cX3_worthOf 5 (some .int) :: wsL_law
abbrev rmX3_worthOf : Room := { frames := 0, cells := 0, slots := 0, locals := 0 }
def fX3_worthOf_b17 (M : QM) (x0 : Int32) (x1 : Int32) (x2 : Int32) (s0 : Int32) : Option (Int32 × QM) := (q_t ((((4 : Int32) * x2) + ((2 : Int32) * s0)) + ((x0 >>> (((1 : Int32) - x1) &&& (31 : Int32))) &&& (1 : Int32))) fun v2 => some (v2, M))
set_option maxRecDepth 100000 in
set_option maxHeartbeats 4000000 in
theorem bX3_worthOf_17 {x : Cx} {y : Ly} (l : Launch) (K : VK x l rmX3_worthOf y 5 cX3_worthOf RX3 wqX3_worthOf) (hy : y.2.2.2.2 = 0) {z : Int32 × QM} (hQ : VQ x y (some (.int z.1)) z.2 (some .int)) {M : QM} {x0 : Int32} {x1 : Int32} {x2 : Int32} {s0 : Int32} (hF : fX3_worthOf_b17 M x0 x1 x2 s0 = some z) : V x y 5 M 17 [(0, .int x0), (1, .int x1), (2, .int x2)] [.int s0] := by
  unfold fX3_worthOf_b17 at hF
  refine v_istore_n (pc := 17) (lv' := [(3, .int s0), (0, .int x0), (1, .int x1), (2, .int x2)]) K dX3_worthOf_17 3 rfl (by decide) rfl ?_
  refine v_iload_n (pc := 18) K dX3_worthOf_18 1 rfl ?_
  refine v_iconst (pc := 19) (v := 1) K dX3_worthOf_19 rfl ?_
  refine v_iload_n (pc := 20) K dX3_worthOf_20 2 rfl ?_
  refine v_isub (pc := 21) K dX3_worthOf_21 ?_
  refine v_ishr (pc := 22) K dX3_worthOf_22 ?_
  refine v_iconst (pc := 23) (v := 1) K dX3_worthOf_23 rfl ?_
  refine v_iand (pc := 24) K dX3_worthOf_24 ?_
  refine v_istore (pc := 25) (lv' := [(4, .int ((x0 >>> (((1 : Int32) - x1) &&& (31 : Int32))) &&& (1 : Int32))), (3, .int s0), (0, .int x0), (1, .int x1), (2, .int x2)]) K 4 dX3_worthOf_25 (by decide) rfl ?_
  refine v_iconst (pc := 27) (v := 4) K dX3_worthOf_27 rfl ?_
  refine v_iload_n (pc := 28) K dX3_worthOf_28 4 rfl ?_
  refine v_imul (pc := 29) K dX3_worthOf_29 ?_
  refine v_iconst (pc := 30) (v := 2) K dX3_worthOf_30 rfl ?_
  refine v_iload_n (pc := 31) K dX3_worthOf_31 1 rfl ?_
  refine v_imul (pc := 32) K dX3_worthOf_32 ?_
  refine v_iadd (pc := 33) K dX3_worthOf_33 ?_
  refine v_iload (pc := 34) K dX3_worthOf_34 0 rfl ?_
  refine v_iadd (pc := 36) K dX3_worthOf_36 ?_
  refine v_nmI hF (fun v2 hF => ?_)
  have hz := (Option.some.inj hF).symm
  subst hz
  exact v_iret (pc := 37) K hQ dX3_worthOf_37
def fX3_worthOf (M : QM) (x0 : Int32) (x1 : Int32) : Option (Int32 × QM) := if x0 ≠ (8 : Int32) then (fX3_worthOf_b17 M x0 x1 ((x0 >>> (x1 &&& (31 : Int32))) &&& (1 : Int32)) (0 : Int32)) else (fX3_worthOf_b17 M x0 x1 ((x0 >>> (x1 &&& (31 : Int32))) &&& (1 : Int32)) (1 : Int32))
set_option maxRecDepth 100000 in
set_option maxHeartbeats 4000000 in
theorem bX3_worthOf_0 {x : Cx} {y : Ly} (l : Launch) (K : VK x l rmX3_worthOf y 5 cX3_worthOf RX3 wqX3_worthOf) (hy : y.2.2.2.2 = 0) {z : Int32 × QM} (hQ : VQ x y (some (.int z.1)) z.2 (some .int)) {M : QM} {x0 : Int32} {x1 : Int32} (hF : fX3_worthOf M x0 x1 = some z) : V x y 5 M 0 [(0, .int x0), (1, .int x1)] [] := by
  unfold fX3_worthOf at hF
  refine v_iload_n (pc := 0) K dX3_worthOf_0 0 rfl ?_
  refine v_iload_n (pc := 1) K dX3_worthOf_1 1 rfl ?_
  refine v_ishr (pc := 2) K dX3_worthOf_2 ?_
  refine v_iconst (pc := 3) (v := 1) K dX3_worthOf_3 rfl ?_
  refine v_iand (pc := 4) K dX3_worthOf_4 ?_
  refine v_istore_n (pc := 5) (lv' := [(2, .int ((x0 >>> (x1 &&& (31 : Int32))) &&& (1 : Int32))), (0, .int x0), (1, .int x1)]) K dX3_worthOf_5 2 rfl (by decide) rfl ?_
  refine v_iload_n (pc := 6) K dX3_worthOf_6 1 rfl ?_
  refine v_bipush (pc := 7) (v := 8) K dX3_worthOf_7 rfl ?_
  refine v_icmp_ne (pc := 9) (tgt := 16) K dX3_worthOf_9 (by decide) hF (fun c1 hF => ?_) (fun c1 hF => ?_)
  · refine v_iconst (pc := 16) (v := 0) K dX3_worthOf_16 rfl ?_
    refine v_sub [1, 2, 0] rfl ?_
    exact bX3_worthOf_17 l K hy hQ hF
  · refine v_iconst (pc := 12) (v := 1) K dX3_worthOf_12 rfl ?_
    refine v_goto (pc := 13) (tgt := 17) K dX3_worthOf_13 (by decide) ?_
    refine v_sub [1, 2, 0] rfl ?_
    exact bX3_worthOf_17 l K hy hQ hF
set_option maxRecDepth 100000 in
set_option maxHeartbeats 4000000 in
theorem kX3_worthOf (l : Launch) {y : Ly} (hJ : ly_J y) (hy : y.2.2.2.2 = 0) {M M1 : QM} {r : Int32} {x0 : Int32} {x1 : Int32} (hF : fX3_worthOf M x0 x1 = some (r, M1)) : Met l yX3_worthOf wqX3_worthOf rmX3_worthOf (q_P y [.int x0, .int x1] M) (q_E y (some (.int r)) M1) 0 0 (ly_A y) :=
  q_met (by decide) rfl hJ rfl rfl rfl (fun x K hQ => bX3_worthOf_0 l K hy (z := (r, M1)) hQ  hF)
-- ===== X3_settle (LTwoCards$Affair;II)I
def fX3_settle_b13 (rc : QM → Int32 → Int32 → Option (Int32 × QM)) (M : QM) (x2 : Int32) : Option (Int32 × QM) := (q_b (fX7_outcome M x2) fun r34 M35 => some (r34, M35))
set_option maxRecDepth 100000 in
set_option maxHeartbeats 4000000 in
theorem bX3_settle_13 {x : Cx} {y : Ly} (l : Launch) (d : Nat) {rc : QM → Int32 → Int32 → Option (Int32 × QM)} (hrc : ∀ {M M1 : QM} {x2 : Int32} {x3 : Int32} {r : Int32}, rc M x2 x3 = some (r, M1) → Met l yX3_settle wqX3_settle (rmX3_settle d) (q_P y [.ref (ly_o y 5), .ref (ly_o y 4), .int x2, .int x3] M) (q_E y (some (.int r)) M1) 0 0 (ly_A y)) (K : VK x l (rmX3_settle (d + 1)) y 11 cX3_settle RX3 wqX3_settle) (hy : y.2.2.2.2 = 0) {z : Int32 × QM} (hQ : VQ x y (some (.int z.1)) z.2 (some .int)) {M : QM} {x2 : Int32} (hF : fX3_settle_b13 rc M x2 = some z) : V x y 11 M 13 [(2, .int x2)] [] := by
  unfold fX3_settle_b13 at hF
  refine v_iload_n (pc := 13) K dX3_settle_13 0 rfl ?_
  obtain ⟨r34, M35, hc33, hF⟩ := q_bE hF
  refine v_callS (pc := 14) (As := [.int x2]) (rest := []) (st' := [.int r34]) (r := some (.int r34)) (M1 := M35) K (kX7_outcome l K.2.2.2.2.2.2.1 hy hc33) (jg_S jl_X3_29 jw_t_X7_outcome jw_n_X7 jw_c_X7_outcome) rfl rfl rfl jd_X7_outcome ⟨by simp only [rmX7_outcome, rmX3_settle]; omega, by simp only [rmX7_outcome, rmX3_settle]; omega⟩ rfl rfl (Nat.le_of_ble_eq_true rfl) dX3_settle_14 rfl ?_
  have hz := (Option.some.inj hF).symm
  subst hz
  exact v_iret (pc := 17) K hQ dX3_settle_17
def fX3_settle_b141 (rc : QM → Int32 → Int32 → Option (Int32 × QM)) (k69 : QM → Int32 → Int32 → Int32 → Int32 → Int32 → Int32 → Int32 → Option (Int32 × QM)) (M : QM) (x2 : Int32) (x3 : Int32) (x4 : Int32) (x5 : Int32) (x6 : Int32) (x7 : Int32) (x8 : Int32) : Option (Int32 × QM) := (k69 M x2 x3 x4 x5 x6 x7 (x8 + (1 : Int32)))
set_option maxRecDepth 100000 in
set_option maxHeartbeats 4000000 in
theorem bX3_settle_141 {x : Cx} {y : Ly} (l : Launch) (d : Nat) {rc : QM → Int32 → Int32 → Option (Int32 × QM)} (hrc : ∀ {M M1 : QM} {x2 : Int32} {x3 : Int32} {r : Int32}, rc M x2 x3 = some (r, M1) → Met l yX3_settle wqX3_settle (rmX3_settle d) (q_P y [.ref (ly_o y 5), .ref (ly_o y 4), .int x2, .int x3] M) (q_E y (some (.int r)) M1) 0 0 (ly_A y)) (K : VK x l (rmX3_settle (d + 1)) y 11 cX3_settle RX3 wqX3_settle) (hy : y.2.2.2.2 = 0) {z : Int32 × QM} (hQ : VQ x y (some (.int z.1)) z.2 (some .int)) {k69 : QM → Int32 → Int32 → Int32 → Int32 → Int32 → Int32 → Int32 → Option (Int32 × QM)} (hk69 : ∀ {M : QM} {x2 : Int32} {x3 : Int32} {x4 : Int32} {x5 : Int32} {x6 : Int32} {x7 : Int32} {x8 : Int32}, k69 M x2 x3 x4 x5 x6 x7 x8 = some z → V x y 11 M 69 [(0, .ref (ly_o y 5)), (1, .ref (ly_o y 4)), (2, .int x2), (3, .int x3), (4, .int x4), (5, .int x5), (6, .int x6), (7, .int x7), (8, .int x8)] []) {M : QM} {x2 : Int32} {x3 : Int32} {x4 : Int32} {x5 : Int32} {x6 : Int32} {x7 : Int32} {x8 : Int32} (hF : fX3_settle_b141 rc k69 M x2 x3 x4 x5 x6 x7 x8 = some z) : V x y 11 M 141 [(0, .ref (ly_o y 5)), (1, .ref (ly_o y 4)), (2, .int x2), (3, .int x3), (4, .int x4), (5, .int x5), (6, .int x6), (7, .int x7), (8, .int x8)] [] := by
  unfold fX3_settle_b141 at hF
  refine v_iinc (pc := 141) (v1 := x8 + (1 : Int32)) (lv' := [(8, .int (x8 + (1 : Int32))), (0, .ref (ly_o y 5)), (1, .ref (ly_o y 4)), (2, .int x2), (3, .int x3), (4, .int x4), (5, .int x5), (6, .int x6), (7, .int x7)]) K dX3_settle_141 8 rfl rfl (by decide) rfl ?_
  refine v_goto (pc := 144) (tgt := 69) K dX3_settle_144 (by decide) ?_
  refine v_sub [1, 2, 3, 4, 5, 6, 7, 8, 0] rfl ?_
  exact hk69 hF
def fX3_settle_b147 (rc : QM → Int32 → Int32 → Option (Int32 × QM)) (M : QM) (x4 : Int32) (x6 : Int32) : Option (Int32 × QM) := (if q_in x4 4096 then (q_t (p_a M 5 0 x4.toNatClampNeg (((q_i M 5 1) <<< ((9 : Int32) &&& (31 : Int32))) ||| x6)) fun M32 => some (x6, M32)) else none)
set_option maxRecDepth 100000 in
set_option maxHeartbeats 4000000 in
theorem bX3_settle_147 {x : Cx} {y : Ly} (l : Launch) (d : Nat) {rc : QM → Int32 → Int32 → Option (Int32 × QM)} (hrc : ∀ {M M1 : QM} {x2 : Int32} {x3 : Int32} {r : Int32}, rc M x2 x3 = some (r, M1) → Met l yX3_settle wqX3_settle (rmX3_settle d) (q_P y [.ref (ly_o y 5), .ref (ly_o y 4), .int x2, .int x3] M) (q_E y (some (.int r)) M1) 0 0 (ly_A y)) (K : VK x l (rmX3_settle (d + 1)) y 11 cX3_settle RX3 wqX3_settle) (hy : y.2.2.2.2 = 0) {z : Int32 × QM} (hQ : VQ x y (some (.int z.1)) z.2 (some .int)) {M : QM} {x4 : Int32} {x6 : Int32} (hF : fX3_settle_b147 rc M x4 x6 = some z) : V x y 11 M 147 [(0, .ref (ly_o y 5)), (4, .int x4), (6, .int x6)] [] := by
  unfold fX3_settle_b147 at hF
  refine v_aload_n (pc := 147) K dX3_settle_147 0 rfl ?_
  refine gX3_known (pc := 148) K hy (by decide) jn_X3 (List.mem_cons_of_mem _ jl_X3_9) dX3_settle_148 ?_
  refine v_iload (pc := 151) K dX3_settle_151 1 rfl ?_
  refine v_aload_n (pc := 153) K dX3_settle_153 0 rfl ?_
  refine gX3_mark (pc := 154) K hy (by decide) jn_X3 (List.mem_cons_of_mem _ jl_X3_15) dX3_settle_154 ?_
  refine v_bipush (pc := 157) (v := 9) K dX3_settle_157 rfl ?_
  refine v_ishl (pc := 159) K dX3_settle_159 ?_
  refine v_iload (pc := 160) K dX3_settle_160 2 rfl ?_
  refine v_ior (pc := 162) K dX3_settle_162 ?_
  refine uX3_known (pc := 163) K hy (by decide) hF dX3_settle_163 (fun hi31 hF => ?_)
  refine v_nmM hF (fun M32 hF => ?_)
  refine v_iload (pc := 164) K dX3_settle_164 2 rfl ?_
  have hz := (Option.some.inj hF).symm
  subst hz
  exact v_iret (pc := 166) K hQ dX3_settle_166
def fX3_settle_b69 (rc : QM → Int32 → Int32 → Option (Int32 × QM)) : Nat → QM → Int32 → Int32 → Int32 → Int32 → Int32 → Int32 → Int32 → Option (Int32 × QM)
  | 0, _, _, _, _, _, _, _, _ => none
  | q + 1, M, x2, x3, x4, x5, x6, x7, x8 => if (11 : Int32) ≤ x8 then (fX3_settle_b147 rc M x4 x6) else if x7 ≤ (0 : Int32) then (fX3_settle_b147 rc M x4 x6) else (q_b (fX0_allows M x2 x8) fun r16 M17 => if r16 = (0 : Int32) then (fX3_settle_b141 rc (fun M x2 x3 x4 x5 x6 x7 x8 => fX3_settle_b69 rc q M x2 x3 x4 x5 x6 x7 x8) M17 x2 x3 x4 x5 x6 x7 x8) else (q_b (fX0_after M17 x2 x8 (1 : Int32)) fun r19 M20 => (q_b (rc M20 r19 (x3 + (1 : Int32))) fun r22 M23 => (q_b (fX3_worthOf M23 (r22 &&& (31 : Int32)) x5) fun r25 M26 => if x7 ≤ r25 then (fX3_settle_b141 rc (fun M x2 x3 x4 x5 x6 x7 x8 => fX3_settle_b69 rc q M x2 x3 x4 x5 x6 x7 x8) M26 x2 x3 x4 x5 x6 x7 x8) else (fX3_settle_b141 rc (fun M x2 x3 x4 x5 x6 x7 x8 => fX3_settle_b69 rc q M x2 x3 x4 x5 x6 x7 x8) M26 x2 x3 x4 x5 ((x8 <<< ((5 : Int32) &&& (31 : Int32))) ||| (r22 &&& (31 : Int32))) r25 x8)))))
set_option maxRecDepth 100000 in
set_option maxHeartbeats 4000000 in
theorem bX3_settle_69 {x : Cx} {y : Ly} (l : Launch) (d : Nat) {rc : QM → Int32 → Int32 → Option (Int32 × QM)} (hrc : ∀ {M M1 : QM} {x2 : Int32} {x3 : Int32} {r : Int32}, rc M x2 x3 = some (r, M1) → Met l yX3_settle wqX3_settle (rmX3_settle d) (q_P y [.ref (ly_o y 5), .ref (ly_o y 4), .int x2, .int x3] M) (q_E y (some (.int r)) M1) 0 0 (ly_A y)) (K : VK x l (rmX3_settle (d + 1)) y 11 cX3_settle RX3 wqX3_settle) (hy : y.2.2.2.2 = 0) {z : Int32 × QM} (hQ : VQ x y (some (.int z.1)) z.2 (some .int)) : ∀ (q : Nat) {M : QM} {x2 : Int32} {x3 : Int32} {x4 : Int32} {x5 : Int32} {x6 : Int32} {x7 : Int32} {x8 : Int32},  fX3_settle_b69 rc q M x2 x3 x4 x5 x6 x7 x8 = some z → V x y 11 M 69 [(0, .ref (ly_o y 5)), (1, .ref (ly_o y 4)), (2, .int x2), (3, .int x3), (4, .int x4), (5, .int x5), (6, .int x6), (7, .int x7), (8, .int x8)] [] := by
  intro q
  induction q with
  | zero =>
    intro M x2 x3 x4 x5 x6 x7 x8  hF
    rw [fX3_settle_b69] at hF
    cases hF
  | succ q ih =>
    intro M x2 x3 x4 x5 x6 x7 x8  hF
    rw [fX3_settle_b69] at hF
    refine v_iload (pc := 69) K dX3_settle_69 8 rfl ?_
    refine v_bipush (pc := 71) (v := 11) K dX3_settle_71 rfl ?_
    refine v_icmp_ge (pc := 73) (tgt := 147) K dX3_settle_73 (by decide) hF (fun c30 hF => ?_) (fun c30 hF => ?_)
    · refine v_sub [0, 4, 6] rfl ?_
      exact bX3_settle_147 l d hrc K hy hQ hF
    · refine v_iload (pc := 76) K dX3_settle_76 7 rfl ?_
      refine v_if_le (pc := 78) (tgt := 147) K dX3_settle_78 (by decide) hF (fun c29 hF => ?_) (fun c29 hF => ?_)
      · refine v_sub [0, 4, 6] rfl ?_
        exact bX3_settle_147 l d hrc K hy hQ hF
      · refine v_aload_n (pc := 81) K dX3_settle_81 1 rfl ?_
        refine v_iload_n (pc := 82) K dX3_settle_82 2 rfl ?_
        refine v_iload (pc := 83) K dX3_settle_83 8 rfl ?_
        obtain ⟨r16, M17, hc15, hF⟩ := q_bE hF
        refine v_callV (pc := 85) (ci := 0) (As := [.int x2, .int x8]) (rest := []) (st' := [.int r16]) (r := some (.int r16)) (M1 := M17) K (kX0_allows l K.2.2.2.2.2.2.1 hy hc15) (jg_V jl_X3_38 jw_i_X0_allows jw_s_X0_allows jw_n_X0 jw_c_X0_allows) rfl rfl rfl jd_X0_allows ⟨by simp only [rmX0_allows, rmX3_settle]; omega, by simp only [rmX0_allows, rmX3_settle]; omega⟩ rfl rfl (Nat.le_of_ble_eq_true rfl) (by decide) (okc_0 hy (by decide)) rfl dX3_settle_85 rfl ?_
        refine v_if_eq (pc := 88) (tgt := 141) K dX3_settle_88 (by decide) hF (fun c28 hF => ?_) (fun c28 hF => ?_)
        · exact bX3_settle_141 l d hrc K hy hQ ih hF
        · refine v_aload_n (pc := 91) K dX3_settle_91 0 rfl ?_
          refine v_aload_n (pc := 92) K dX3_settle_92 1 rfl ?_
          refine v_aload_n (pc := 93) K dX3_settle_93 1 rfl ?_
          refine v_iload_n (pc := 94) K dX3_settle_94 2 rfl ?_
          refine v_iload (pc := 95) K dX3_settle_95 8 rfl ?_
          refine v_iconst (pc := 97) (v := 1) K dX3_settle_97 rfl ?_
          obtain ⟨r19, M20, hc18, hF⟩ := q_bE hF
          refine v_callV (pc := 98) (ci := 0) (As := [.int x2, .int x8, .int (1 : Int32)]) (rest := [.ref (ly_o y 4), .ref (ly_o y 5)]) (st' := [.int r19, .ref (ly_o y 4), .ref (ly_o y 5)]) (r := some (.int r19)) (M1 := M20) K (kX0_after l K.2.2.2.2.2.2.1 hy hc18) (jg_V jl_X3_44 jw_i_X0_after jw_s_X0_after jw_n_X0 jw_c_X0_after) rfl rfl rfl jd_X0_after ⟨by simp only [rmX0_after, rmX3_settle]; omega, by simp only [rmX0_after, rmX3_settle]; omega⟩ rfl rfl (Nat.le_of_ble_eq_true rfl) (by decide) (okc_0 hy (by decide)) rfl dX3_settle_98 rfl ?_
          refine v_iload_n (pc := 101) K dX3_settle_101 3 rfl ?_
          refine v_iconst (pc := 102) (v := 1) K dX3_settle_102 rfl ?_
          refine v_iadd (pc := 103) K dX3_settle_103 ?_
          obtain ⟨r22, M23, hc21, hF⟩ := q_bE hF
          refine v_callV (pc := 104) (ci := 3) (As := [.ref (ly_o y 4), .int r19, .int (x3 + (1 : Int32))]) (rest := []) (st' := [.int r22]) (r := some (.int r22)) (M1 := M23) K (hrc hc21) (jg_V jl_X3_19 jw_i_X3_settle jw_s_X3_settle jw_n_X3 jw_c_X3_settle) rfl rfl rfl jd_X3_settle ⟨by simp only [rmX3_settle]; omega, by simp only [rmX3_settle]; omega⟩ rfl rfl (Nat.le_of_ble_eq_true rfl) (by decide) (okc_0 hy (by decide)) rfl dX3_settle_104 rfl ?_
          refine v_bipush (pc := 107) (v := 31) K dX3_settle_107 rfl ?_
          refine v_iand (pc := 109) K dX3_settle_109 ?_
          refine v_istore (pc := 110) (lv' := [(9, .int (r22 &&& (31 : Int32))), (0, .ref (ly_o y 5)), (1, .ref (ly_o y 4)), (2, .int x2), (3, .int x3), (4, .int x4), (5, .int x5), (6, .int x6), (7, .int x7), (8, .int x8)]) K 9 dX3_settle_110 (by decide) rfl ?_
          refine v_iload (pc := 112) K dX3_settle_112 0 rfl ?_
          refine v_iload (pc := 114) K dX3_settle_114 6 rfl ?_
          obtain ⟨r25, M26, hc24, hF⟩ := q_bE hF
          refine v_callS (pc := 116) (As := [.int (r22 &&& (31 : Int32)), .int x5]) (rest := []) (st' := [.int r25]) (r := some (.int r25)) (M1 := M26) K (kX3_worthOf l K.2.2.2.2.2.2.1 hy hc24) (jg_S jl_X3_48 jw_t_X3_worthOf jw_n_X3 jw_c_X3_worthOf) rfl rfl rfl jd_X3_worthOf ⟨by simp only [rmX3_worthOf, rmX3_settle]; omega, by simp only [rmX3_worthOf, rmX3_settle]; omega⟩ rfl rfl (Nat.le_of_ble_eq_true rfl) dX3_settle_116 rfl ?_
          refine v_istore (pc := 119) (lv' := [(10, .int r25), (9, .int (r22 &&& (31 : Int32))), (0, .ref (ly_o y 5)), (1, .ref (ly_o y 4)), (2, .int x2), (3, .int x3), (4, .int x4), (5, .int x5), (6, .int x6), (7, .int x7), (8, .int x8)]) K 10 dX3_settle_119 (by decide) rfl ?_
          refine v_iload (pc := 121) K dX3_settle_121 0 rfl ?_
          refine v_iload (pc := 123) K dX3_settle_123 9 rfl ?_
          refine v_icmp_ge (pc := 125) (tgt := 141) K dX3_settle_125 (by decide) hF (fun c27 hF => ?_) (fun c27 hF => ?_)
          · refine v_sub [2, 3, 4, 5, 6, 7, 8, 9, 10] rfl ?_
            exact bX3_settle_141 l d hrc K hy hQ ih hF
          · refine v_iload (pc := 128) K dX3_settle_128 0 rfl ?_
            refine v_istore (pc := 130) (lv' := [(7, .int r25), (10, .int r25), (9, .int (r22 &&& (31 : Int32))), (0, .ref (ly_o y 5)), (1, .ref (ly_o y 4)), (2, .int x2), (3, .int x3), (4, .int x4), (5, .int x5), (6, .int x6), (8, .int x8)]) K 7 dX3_settle_130 (by decide) rfl ?_
            refine v_iload (pc := 132) K dX3_settle_132 10 rfl ?_
            refine v_iconst (pc := 134) (v := 5) K dX3_settle_134 rfl ?_
            refine v_ishl (pc := 135) K dX3_settle_135 ?_
            refine v_iload (pc := 136) K dX3_settle_136 2 rfl ?_
            refine v_ior (pc := 138) K dX3_settle_138 ?_
            refine v_istore (pc := 139) (lv' := [(6, .int ((x8 <<< ((5 : Int32) &&& (31 : Int32))) ||| (r22 &&& (31 : Int32)))), (7, .int r25), (10, .int r25), (9, .int (r22 &&& (31 : Int32))), (0, .ref (ly_o y 5)), (1, .ref (ly_o y 4)), (2, .int x2), (3, .int x3), (4, .int x4), (5, .int x5), (8, .int x8)]) K 6 dX3_settle_139 (by decide) rfl ?_
            refine v_sub [4, 5, 6, 7, 8, 9, 0, 1, 10] rfl ?_
            exact bX3_settle_141 l d hrc K hy hQ ih hF
def fX3_settle_b0 (rc : QM → Int32 → Int32 → Option (Int32 × QM)) (M : QM) (x2 : Int32) (x3 : Int32) : Option (Int32 × QM) := (q_b (fX7_ending M x2) fun r2 M3 => if r2 ≠ (0 : Int32) then (fX3_settle_b13 rc M3 x2) else if x3 ≤ (8 : Int32) then (q_b (fX7_spot M3 x2) fun r5 M6 => (if q_in r5 4096 then if ((q_a M6 5 0 r5.toNatClampNeg) >>> ((9 : Int32) &&& (31 : Int32))) ≠ (q_i M6 5 1) then (q_b (fX7_turn M6 x2) fun r9 M10 => (fX3_settle_b69 rc q_F M10 x2 x3 r5 r9 (0 : Int32) (8 : Int32) (0 : Int32))) else (if q_in r5 4096 then some ((q_a M6 5 0 r5.toNatClampNeg) &&& (511 : Int32), M6) else none) else none)) else (fX3_settle_b13 rc M3 x2))
set_option maxRecDepth 100000 in
set_option maxHeartbeats 4000000 in
theorem bX3_settle_0 {x : Cx} {y : Ly} (l : Launch) (d : Nat) {rc : QM → Int32 → Int32 → Option (Int32 × QM)} (hrc : ∀ {M M1 : QM} {x2 : Int32} {x3 : Int32} {r : Int32}, rc M x2 x3 = some (r, M1) → Met l yX3_settle wqX3_settle (rmX3_settle d) (q_P y [.ref (ly_o y 5), .ref (ly_o y 4), .int x2, .int x3] M) (q_E y (some (.int r)) M1) 0 0 (ly_A y)) (K : VK x l (rmX3_settle (d + 1)) y 11 cX3_settle RX3 wqX3_settle) (hy : y.2.2.2.2 = 0) {z : Int32 × QM} (hQ : VQ x y (some (.int z.1)) z.2 (some .int)) {M : QM} {x2 : Int32} {x3 : Int32} (hF : fX3_settle_b0 rc M x2 x3 = some z) : V x y 11 M 0 [(0, .ref (ly_o y 5)), (1, .ref (ly_o y 4)), (2, .int x2), (3, .int x3)] [] := by
  unfold fX3_settle_b0 at hF
  refine v_iload_n (pc := 0) K dX3_settle_0 2 rfl ?_
  obtain ⟨r2, M3, hc1, hF⟩ := q_bE hF
  refine v_callS (pc := 1) (As := [.int x2]) (rest := []) (st' := [.int r2]) (r := some (.int r2)) (M1 := M3) K (kX7_ending l K.2.2.2.2.2.2.1 hy hc1) (jg_S jl_X3_23 jw_t_X7_ending jw_n_X7 jw_c_X7_ending) rfl rfl rfl jd_X7_ending ⟨by simp only [rmX7_ending, rmX3_settle]; omega, by simp only [rmX7_ending, rmX3_settle]; omega⟩ rfl rfl (Nat.le_of_ble_eq_true rfl) dX3_settle_1 rfl ?_
  refine v_if_ne (pc := 4) (tgt := 13) K dX3_settle_4 (by decide) hF (fun c14 hF => ?_) (fun c14 hF => ?_)
  · refine v_sub [2] rfl ?_
    exact bX3_settle_13 l d hrc K hy hQ hF
  · refine v_iload_n (pc := 7) K dX3_settle_7 3 rfl ?_
    refine v_bipush (pc := 8) (v := 8) K dX3_settle_8 rfl ?_
    refine v_icmp_le (pc := 10) (tgt := 18) K dX3_settle_10 (by decide) hF (fun c13 hF => ?_) (fun c13 hF => ?_)
    · refine v_iload_n (pc := 18) K dX3_settle_18 2 rfl ?_
      obtain ⟨r5, M6, hc4, hF⟩ := q_bE hF
      refine v_callS (pc := 19) (As := [.int x2]) (rest := []) (st' := [.int r5]) (r := some (.int r5)) (M1 := M6) K (kX7_spot l K.2.2.2.2.2.2.1 hy hc4) (jg_S jl_X3_32 jw_t_X7_spot jw_n_X7 jw_c_X7_spot) rfl rfl rfl jd_X7_spot ⟨by simp only [rmX7_spot, rmX3_settle]; omega, by simp only [rmX7_spot, rmX3_settle]; omega⟩ rfl rfl (Nat.le_of_ble_eq_true rfl) dX3_settle_19 rfl ?_
      refine v_istore (pc := 22) (lv' := [(4, .int r5), (0, .ref (ly_o y 5)), (1, .ref (ly_o y 4)), (2, .int x2), (3, .int x3)]) K 4 dX3_settle_22 (by decide) rfl ?_
      refine v_aload_n (pc := 24) K dX3_settle_24 1 rfl ?_
      refine gX3_known (pc := 25) K hy (by decide) jn_X3 (List.mem_cons_of_mem _ jl_X3_9) dX3_settle_25 ?_
      refine v_iload (pc := 28) K dX3_settle_28 0 rfl ?_
      refine iX3_known (pc := 30) K hy (by decide) hF dX3_settle_30 (fun hi7 hF => ?_)
      refine v_bipush (pc := 31) (v := 9) K dX3_settle_31 rfl ?_
      refine v_ishr (pc := 33) K dX3_settle_33 ?_
      refine v_aload_n (pc := 34) K dX3_settle_34 1 rfl ?_
      refine gX3_mark (pc := 35) K hy (by decide) jn_X3 (List.mem_cons_of_mem _ jl_X3_15) dX3_settle_35 ?_
      refine v_icmp_ne (pc := 38) (tgt := 53) K dX3_settle_38 (by decide) hF (fun c12 hF => ?_) (fun c12 hF => ?_)
      · refine v_iload_n (pc := 53) K dX3_settle_53 3 rfl ?_
        obtain ⟨r9, M10, hc8, hF⟩ := q_bE hF
        refine v_callS (pc := 54) (As := [.int x2]) (rest := []) (st' := [.int r9]) (r := some (.int r9)) (M1 := M10) K (kX7_turn l K.2.2.2.2.2.2.1 hy hc8) (jg_S jl_X3_35 jw_t_X7_turn jw_n_X7 jw_c_X7_turn) rfl rfl rfl jd_X7_turn ⟨by simp only [rmX7_turn, rmX3_settle]; omega, by simp only [rmX7_turn, rmX3_settle]; omega⟩ rfl rfl (Nat.le_of_ble_eq_true rfl) dX3_settle_54 rfl ?_
        refine v_istore (pc := 57) (lv' := [(5, .int r9), (4, .int r5), (0, .ref (ly_o y 5)), (1, .ref (ly_o y 4)), (2, .int x2), (3, .int x3)]) K 5 dX3_settle_57 (by decide) rfl ?_
        refine v_iconst (pc := 59) (v := 0) K dX3_settle_59 rfl ?_
        refine v_istore (pc := 60) (lv' := [(6, .int (0 : Int32)), (5, .int r9), (4, .int r5), (0, .ref (ly_o y 5)), (1, .ref (ly_o y 4)), (2, .int x2), (3, .int x3)]) K 6 dX3_settle_60 (by decide) rfl ?_
        refine v_bipush (pc := 62) (v := 8) K dX3_settle_62 rfl ?_
        refine v_istore (pc := 64) (lv' := [(7, .int (8 : Int32)), (6, .int (0 : Int32)), (5, .int r9), (4, .int r5), (0, .ref (ly_o y 5)), (1, .ref (ly_o y 4)), (2, .int x2), (3, .int x3)]) K 7 dX3_settle_64 (by decide) rfl ?_
        refine v_iconst (pc := 66) (v := 0) K dX3_settle_66 rfl ?_
        refine v_istore (pc := 67) (lv' := [(8, .int (0 : Int32)), (7, .int (8 : Int32)), (6, .int (0 : Int32)), (5, .int r9), (4, .int r5), (0, .ref (ly_o y 5)), (1, .ref (ly_o y 4)), (2, .int x2), (3, .int x3)]) K 8 dX3_settle_67 (by decide) rfl ?_
        refine v_sub [5, 6, 7, 8, 4, 3, 2, 1, 0] rfl ?_
        exact bX3_settle_69 l d hrc K hy hQ q_F hF
      · refine v_aload_n (pc := 41) K dX3_settle_41 1 rfl ?_
        refine gX3_known (pc := 42) K hy (by decide) jn_X3 (List.mem_cons_of_mem _ jl_X3_9) dX3_settle_42 ?_
        refine v_iload (pc := 45) K dX3_settle_45 0 rfl ?_
        refine iX3_known (pc := 47) K hy (by decide) hF dX3_settle_47 (fun hi11 hF => ?_)
        refine v_sipush (pc := 48) (v := 511) K dX3_settle_48 rfl ?_
        refine v_iand (pc := 51) K dX3_settle_51 ?_
        have hz := (Option.some.inj hF).symm
        subst hz
        exact v_iret (pc := 52) K hQ dX3_settle_52
    · refine v_sub [2] rfl ?_
      exact bX3_settle_13 l d hrc K hy hQ hF
def fX3_settle : Nat → QM → Int32 → Int32 → Option (Int32 × QM)
  | 0, _, _, _ => none
  | d + 1, M, x2, x3 => fX3_settle_b0 (fX3_settle d) M x2 x3
set_option maxRecDepth 100000 in
set_option maxHeartbeats 4000000 in
theorem kX3_settle (l : Launch) {y : Ly} (hJ : ly_J y) (hy : y.2.2.2.2 = 0) : ∀ (d : Nat) {M M1 : QM} {r : Int32} {x2 : Int32} {x3 : Int32}, fX3_settle d M x2 x3 = some (r, M1) → Met l yX3_settle wqX3_settle (rmX3_settle d) (q_P y [.ref (ly_o y 5), .ref (ly_o y 4), .int x2, .int x3] M) (q_E y (some (.int r)) M1) 0 0 (ly_A y) := by
  intro d
  induction d with
  | zero =>
    intro M M1 r x2 x3  hF
    rw [fX3_settle] at hF
    cases hF
  | succ d ih =>
    intro M M1 r x2 x3  hF
    rw [fX3_settle] at hF
    exact q_met (by decide) rfl hJ rfl rfl rfl (fun x K hQ => bX3_settle_0 l d ih K hy (z := (r, M1)) hQ  hF)
-- ===== X3_outcomeFrom (LTwoCards$Affair;I)I
theorem jd_X3_outcomeFrom : yX3_outcomeFrom.cls = RX3 ∧ yX3_outcomeFrom.cls ≠ "java/lang/invoke/MethodHandle" ∧ yX3_outcomeFrom.cls ≠ "java/lang/invoke/VarHandle" ∧ (parseMethodDescriptor yX3_outcomeFrom.desc).map (fun d => d.parameters.length) = some 2 := by decide +kernel
abbrev wqX3_outcomeFrom : List Cond := .code yX3_outcomeFrom cX3_outcomeFrom 3 (some .int) :: wsL_law
abbrev rmX3_outcomeFrom : Room := { frames := 20, cells := 0, slots := 0, locals := 579 }
def fX3_outcomeFrom (M : QM) (x2 : Int32) : Option (Int32 × QM) := (q_b (fX3_settle 12 M x2 (0 : Int32)) fun r2 M3 => some (r2 &&& (31 : Int32), M3))
set_option maxRecDepth 100000 in
set_option maxHeartbeats 4000000 in
theorem bX3_outcomeFrom_0 {x : Cx} {y : Ly} (l : Launch) (K : VK x l rmX3_outcomeFrom y 3 cX3_outcomeFrom RX3 wqX3_outcomeFrom) (hy : y.2.2.2.2 = 0) {z : Int32 × QM} (hQ : VQ x y (some (.int z.1)) z.2 (some .int)) {M : QM} {x2 : Int32} (hF : fX3_outcomeFrom M x2 = some z) : V x y 3 M 0 [(0, .ref (ly_o y 5)), (1, .ref (ly_o y 4)), (2, .int x2)] [] := by
  unfold fX3_outcomeFrom at hF
  refine v_aload_n (pc := 0) K dX3_outcomeFrom_0 0 rfl ?_
  refine v_aload_n (pc := 1) K dX3_outcomeFrom_1 1 rfl ?_
  refine v_iload_n (pc := 2) K dX3_outcomeFrom_2 2 rfl ?_
  refine v_iconst (pc := 3) (v := 0) K dX3_outcomeFrom_3 rfl ?_
  obtain ⟨r2, M3, hc1, hF⟩ := q_bE hF
  refine v_callV (pc := 4) (ci := 3) (As := [.ref (ly_o y 4), .int x2, .int (0 : Int32)]) (rest := []) (st' := [.int r2]) (r := some (.int r2)) (M1 := M3) K (kX3_settle l K.2.2.2.2.2.2.1 hy 12 hc1) (jg_V jl_X3_19 jw_i_X3_settle jw_s_X3_settle jw_n_X3 jw_c_X3_settle) rfl rfl rfl jd_X3_settle ⟨Nat.le_of_ble_eq_true rfl, Nat.le_of_ble_eq_true rfl⟩ rfl rfl (Nat.le_of_ble_eq_true rfl) (by decide) (okc_0 hy (by decide)) rfl dX3_outcomeFrom_4 rfl ?_
  refine v_bipush (pc := 7) (v := 31) K dX3_outcomeFrom_7 rfl ?_
  refine v_iand (pc := 9) K dX3_outcomeFrom_9 ?_
  have hz := (Option.some.inj hF).symm
  subst hz
  exact v_iret (pc := 10) K hQ dX3_outcomeFrom_10
set_option maxRecDepth 100000 in
set_option maxHeartbeats 4000000 in
theorem kX3_outcomeFrom (l : Launch) {y : Ly} (hJ : ly_J y) (hy : y.2.2.2.2 = 0) {M M1 : QM} {r : Int32} {x2 : Int32} (hF : fX3_outcomeFrom M x2 = some (r, M1)) : Met l yX3_outcomeFrom wqX3_outcomeFrom rmX3_outcomeFrom (q_P y [.ref (ly_o y 5), .ref (ly_o y 4), .int x2] M) (q_E y (some (.int r)) M1) 0 0 (ly_A y) :=
  q_met (by decide) rfl hJ rfl rfl rfl (fun x K hQ => bX3_outcomeFrom_0 l K hy (z := (r, M1)) hQ  hF)
-- ===== X3_moveFrom (LTwoCards$Affair;I)I
theorem jd_X3_moveFrom : yX3_moveFrom.cls = RX3 ∧ yX3_moveFrom.cls ≠ "java/lang/invoke/MethodHandle" ∧ yX3_moveFrom.cls ≠ "java/lang/invoke/VarHandle" ∧ (parseMethodDescriptor yX3_moveFrom.desc).map (fun d => d.parameters.length) = some 2 := by decide +kernel
abbrev wqX3_moveFrom : List Cond := .code yX3_moveFrom cX3_moveFrom 3 (some .int) :: wsL_law
abbrev rmX3_moveFrom : Room := { frames := 20, cells := 0, slots := 0, locals := 579 }
def fX3_moveFrom (M : QM) (x2 : Int32) : Option (Int32 × QM) := (q_b (fX3_settle 12 M x2 (0 : Int32)) fun r2 M3 => some (r2 >>> ((5 : Int32) &&& (31 : Int32)), M3))
set_option maxRecDepth 100000 in
set_option maxHeartbeats 4000000 in
theorem bX3_moveFrom_0 {x : Cx} {y : Ly} (l : Launch) (K : VK x l rmX3_moveFrom y 3 cX3_moveFrom RX3 wqX3_moveFrom) (hy : y.2.2.2.2 = 0) {z : Int32 × QM} (hQ : VQ x y (some (.int z.1)) z.2 (some .int)) {M : QM} {x2 : Int32} (hF : fX3_moveFrom M x2 = some z) : V x y 3 M 0 [(0, .ref (ly_o y 5)), (1, .ref (ly_o y 4)), (2, .int x2)] [] := by
  unfold fX3_moveFrom at hF
  refine v_aload_n (pc := 0) K dX3_moveFrom_0 0 rfl ?_
  refine v_aload_n (pc := 1) K dX3_moveFrom_1 1 rfl ?_
  refine v_iload_n (pc := 2) K dX3_moveFrom_2 2 rfl ?_
  refine v_iconst (pc := 3) (v := 0) K dX3_moveFrom_3 rfl ?_
  obtain ⟨r2, M3, hc1, hF⟩ := q_bE hF
  refine v_callV (pc := 4) (ci := 3) (As := [.ref (ly_o y 4), .int x2, .int (0 : Int32)]) (rest := []) (st' := [.int r2]) (r := some (.int r2)) (M1 := M3) K (kX3_settle l K.2.2.2.2.2.2.1 hy 12 hc1) (jg_V jl_X3_19 jw_i_X3_settle jw_s_X3_settle jw_n_X3 jw_c_X3_settle) rfl rfl rfl jd_X3_settle ⟨Nat.le_of_ble_eq_true rfl, Nat.le_of_ble_eq_true rfl⟩ rfl rfl (Nat.le_of_ble_eq_true rfl) (by decide) (okc_0 hy (by decide)) rfl dX3_moveFrom_4 rfl ?_
  refine v_iconst (pc := 7) (v := 5) K dX3_moveFrom_7 rfl ?_
  refine v_ishr (pc := 8) K dX3_moveFrom_8 ?_
  have hz := (Option.some.inj hF).symm
  subst hz
  exact v_iret (pc := 9) K hQ dX3_moveFrom_9
set_option maxRecDepth 100000 in
set_option maxHeartbeats 4000000 in
theorem kX3_moveFrom (l : Launch) {y : Ly} (hJ : ly_J y) (hy : y.2.2.2.2 = 0) {M M1 : QM} {r : Int32} {x2 : Int32} (hF : fX3_moveFrom M x2 = some (r, M1)) : Met l yX3_moveFrom wqX3_moveFrom rmX3_moveFrom (q_P y [.ref (ly_o y 5), .ref (ly_o y 4), .int x2] M) (q_E y (some (.int r)) M1) 0 0 (ly_A y) :=
  q_met (by decide) rfl hJ rfl rfl rfl (fun x K hQ => bX3_moveFrom_0 l K hy (z := (r, M1)) hQ  hF)
