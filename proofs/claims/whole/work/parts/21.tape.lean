-- ===== X8_add (I)V
theorem jd_X8_add : yX8_add.cls = RX8 ∧ yX8_add.cls ≠ "java/lang/invoke/MethodHandle" ∧ yX8_add.cls ≠ "java/lang/invoke/VarHandle" ∧ (parseMethodDescriptor yX8_add.desc).map (fun d => d.parameters.length) = some 1 := by decide +kernel
abbrev wqX8_add : List Cond := .code yX8_add cX8_add 3 none :: wsL_law
abbrev rmX8_add : Room := { frames := 0, cells := 0, slots := 0, locals := 0 }
def fX8_add_b3 : Nat → QM → Int32 → Int32 → Option QM
  | 0, _, _, _ => none
  | q + 1, M, x1, x2 => if x2 < (0 : Int32) then some M else if (400 : Int32) ≤ (q_i M 1 1) then some M else (if q_in (q_i M 1 1) 400 then (q_t (p_a M 1 0 (q_i M 1 1).toNatClampNeg ((x1 >>> (x2 &&& (31 : Int32))) &&& (255 : Int32))) fun M2 => (q_t (p_i M2 1 1 ((q_i M2 1 1) + (1 : Int32))) fun M3 => (fX8_add_b3 q M3 x1 (x2 + (-8 : Int32))))) else none)
set_option maxRecDepth 100000 in
set_option maxHeartbeats 4000000 in
theorem bX8_add_3 {x : Cx} {y : Ly} (l : Launch) (K : VK x l rmX8_add y 3 cX8_add RX8 wqX8_add) (hy : y.2.2.2.2 = 0) {z : QM} (hQ : VQ x y none z none) : ∀ (q : Nat) {M : QM} {x1 : Int32} {x2 : Int32},  fX8_add_b3 q M x1 x2 = some z → V x y 3 M 3 [(0, .ref (ly_o y 1)), (1, .int x1), (2, .int x2)] [] := by
  intro q
  induction q with
  | zero =>
    intro M x1 x2  hF
    rw [fX8_add_b3] at hF
    cases hF
  | succ q ih =>
    intro M x1 x2  hF
    rw [fX8_add_b3] at hF
    refine v_iload_n (pc := 3) K dX8_add_3 2 rfl ?_
    refine v_if_lt (pc := 4) (tgt := 49) K dX8_add_4 (by decide) hF (fun c5 hF => ?_) (fun c5 hF => ?_)
    · have hz := (Option.some.inj hF).symm
      subst hz
      exact v_vret (pc := 49) K hQ dX8_add_49
    · refine v_aload_n (pc := 7) K dX8_add_7 0 rfl ?_
      refine gX8_length (pc := 8) K hy (by decide) jn_X8 (List.mem_cons_of_mem _ jl_X8_15) dX8_add_8 ?_
      refine v_sipush (pc := 11) (v := 400) K dX8_add_11 rfl ?_
      refine v_icmp_ge (pc := 14) (tgt := 49) K dX8_add_14 (by decide) hF (fun c4 hF => ?_) (fun c4 hF => ?_)
      · have hz := (Option.some.inj hF).symm
        subst hz
        exact v_vret (pc := 49) K hQ dX8_add_49
      · refine v_aload_n (pc := 17) K dX8_add_17 0 rfl ?_
        refine gX8_bytes (pc := 18) K hy (by decide) jn_X8 (List.mem_cons_of_mem _ jl_X8_9) dX8_add_18 ?_
        refine v_aload_n (pc := 21) K dX8_add_21 0 rfl ?_
        refine gX8_length (pc := 22) K hy (by decide) jn_X8 (List.mem_cons_of_mem _ jl_X8_15) dX8_add_22 ?_
        refine v_iload_n (pc := 25) K dX8_add_25 1 rfl ?_
        refine v_iload_n (pc := 26) K dX8_add_26 2 rfl ?_
        refine v_ishr (pc := 27) K dX8_add_27 ?_
        refine v_sipush (pc := 28) (v := 255) K dX8_add_28 rfl ?_
        refine v_iand (pc := 31) K dX8_add_31 ?_
        refine uX8_bytes (pc := 32) K hy (by decide) hF dX8_add_32 (fun hi1 hF => ?_)
        refine v_nmM hF (fun M2 hF => ?_)
        refine v_aload_n (pc := 33) K dX8_add_33 0 rfl ?_
        refine v_dup (pc := 34) K dX8_add_34 rfl ?_
        refine gX8_length (pc := 35) K hy (by decide) jn_X8 (List.mem_cons_of_mem _ jl_X8_15) dX8_add_35 ?_
        refine v_iconst (pc := 38) (v := 1) K dX8_add_38 rfl ?_
        refine v_iadd (pc := 39) K dX8_add_39 ?_
        refine pX8_length (pc := 40) K hy (by decide) jn_X8 (List.mem_cons_of_mem _ jl_X8_15) dX8_add_40 ?_
        refine v_nmM hF (fun M3 hF => ?_)
        refine v_iinc (pc := 43) (v1 := x2 + (-8 : Int32)) (lv' := [(2, .int (x2 + (-8 : Int32))), (0, .ref (ly_o y 1)), (1, .int x1)]) K dX8_add_43 2 rfl rfl (by decide) rfl ?_
        refine v_goto (pc := 46) (tgt := 3) K dX8_add_46 (by decide) ?_
        refine v_sub [1, 2, 0] rfl ?_
        exact ih hF
def fX8_add (M : QM) (x1 : Int32) : Option QM := (fX8_add_b3 q_F M x1 (24 : Int32))
set_option maxRecDepth 100000 in
set_option maxHeartbeats 4000000 in
theorem bX8_add_0 {x : Cx} {y : Ly} (l : Launch) (K : VK x l rmX8_add y 3 cX8_add RX8 wqX8_add) (hy : y.2.2.2.2 = 0) {z : QM} (hQ : VQ x y none z none) {M : QM} {x1 : Int32} (hF : fX8_add M x1 = some z) : V x y 3 M 0 [(0, .ref (ly_o y 1)), (1, .int x1)] [] := by
  unfold fX8_add at hF
  refine v_bipush (pc := 0) (v := 24) K dX8_add_0 rfl ?_
  refine v_istore_n (pc := 2) (lv' := [(2, .int (24 : Int32)), (0, .ref (ly_o y 1)), (1, .int x1)]) K dX8_add_2 2 rfl (by decide) rfl ?_
  refine v_sub [1, 2, 0] rfl ?_
  exact bX8_add_3 l K hy hQ q_F hF
set_option maxRecDepth 100000 in
set_option maxHeartbeats 4000000 in
theorem kX8_add (l : Launch) {y : Ly} (hJ : ly_J y) (hy : y.2.2.2.2 = 0) {M M1 : QM} {x1 : Int32} (hF : fX8_add M x1 = some M1) : Met l yX8_add wqX8_add rmX8_add (q_P y [.ref (ly_o y 1), .int x1] M) (q_E y none M1) 0 0 (ly_A y) :=
  q_met (by decide) rfl hJ rfl rfl rfl (fun x K hQ => bX8_add_0 l K hy (z := M1) hQ  hF)
-- ===== X8_byteAt (I)I
theorem jd_X8_byteAt : yX8_byteAt.cls = RX8 ∧ yX8_byteAt.cls ≠ "java/lang/invoke/MethodHandle" ∧ yX8_byteAt.cls ≠ "java/lang/invoke/VarHandle" ∧ (parseMethodDescriptor yX8_byteAt.desc).map (fun d => d.parameters.length) = some 1 := by decide +kernel
abbrev wqX8_byteAt : List Cond := .code yX8_byteAt cX8_byteAt 2 (some .int) :: wsL_law
abbrev rmX8_byteAt : Room := { frames := 0, cells := 0, slots := 0, locals := 0 }
def fX8_byteAt (M : QM) (x1 : Int32) : Option (Int32 × QM) := if x1 < (0 : Int32) then some ((-1 : Int32), M) else if (q_i M 1 1) ≤ x1 then some ((-1 : Int32), M) else if (400 : Int32) ≤ x1 then some ((-1 : Int32), M) else (if q_in x1 400 then some (q_a M 1 0 x1.toNatClampNeg, M) else none)
set_option maxRecDepth 100000 in
set_option maxHeartbeats 4000000 in
theorem bX8_byteAt_0 {x : Cx} {y : Ly} (l : Launch) (K : VK x l rmX8_byteAt y 2 cX8_byteAt RX8 wqX8_byteAt) (hy : y.2.2.2.2 = 0) {z : Int32 × QM} (hQ : VQ x y (some (.int z.1)) z.2 (some .int)) {M : QM} {x1 : Int32} (hF : fX8_byteAt M x1 = some z) : V x y 2 M 0 [(0, .ref (ly_o y 1)), (1, .int x1)] [] := by
  unfold fX8_byteAt at hF
  refine v_iload_n (pc := 0) K dX8_byteAt_0 1 rfl ?_
  refine v_if_lt (pc := 1) (tgt := 28) K dX8_byteAt_1 (by decide) hF (fun c4 hF => ?_) (fun c4 hF => ?_)
  · refine v_iconst (pc := 28) (v := -1) K dX8_byteAt_28 rfl ?_
    have hz := (Option.some.inj hF).symm
    subst hz
    exact v_iret (pc := 29) K hQ dX8_byteAt_29
  · refine v_iload_n (pc := 4) K dX8_byteAt_4 1 rfl ?_
    refine v_aload_n (pc := 5) K dX8_byteAt_5 0 rfl ?_
    refine gX8_length (pc := 6) K hy (by decide) jn_X8 (List.mem_cons_of_mem _ jl_X8_15) dX8_byteAt_6 ?_
    refine v_icmp_ge (pc := 9) (tgt := 28) K dX8_byteAt_9 (by decide) hF (fun c3 hF => ?_) (fun c3 hF => ?_)
    · refine v_iconst (pc := 28) (v := -1) K dX8_byteAt_28 rfl ?_
      have hz := (Option.some.inj hF).symm
      subst hz
      exact v_iret (pc := 29) K hQ dX8_byteAt_29
    · refine v_iload_n (pc := 12) K dX8_byteAt_12 1 rfl ?_
      refine v_sipush (pc := 13) (v := 400) K dX8_byteAt_13 rfl ?_
      refine v_icmp_ge (pc := 16) (tgt := 28) K dX8_byteAt_16 (by decide) hF (fun c2 hF => ?_) (fun c2 hF => ?_)
      · refine v_iconst (pc := 28) (v := -1) K dX8_byteAt_28 rfl ?_
        have hz := (Option.some.inj hF).symm
        subst hz
        exact v_iret (pc := 29) K hQ dX8_byteAt_29
      · refine v_aload_n (pc := 19) K dX8_byteAt_19 0 rfl ?_
        refine gX8_bytes (pc := 20) K hy (by decide) jn_X8 (List.mem_cons_of_mem _ jl_X8_9) dX8_byteAt_20 ?_
        refine v_iload_n (pc := 23) K dX8_byteAt_23 1 rfl ?_
        refine iX8_bytes (pc := 24) K hy (by decide) hF dX8_byteAt_24 (fun hi1 hF => ?_)
        refine v_goto (pc := 25) (tgt := 29) K dX8_byteAt_25 (by decide) ?_
        have hz := (Option.some.inj hF).symm
        subst hz
        exact v_iret (pc := 29) K hQ dX8_byteAt_29
set_option maxRecDepth 100000 in
set_option maxHeartbeats 4000000 in
theorem kX8_byteAt (l : Launch) {y : Ly} (hJ : ly_J y) (hy : y.2.2.2.2 = 0) {M M1 : QM} {r : Int32} {x1 : Int32} (hF : fX8_byteAt M x1 = some (r, M1)) : Met l yX8_byteAt wqX8_byteAt rmX8_byteAt (q_P y [.ref (ly_o y 1), .int x1] M) (q_E y (some (.int r)) M1) 0 0 (ly_A y) :=
  q_met (by decide) rfl hJ rfl rfl rfl (fun x K hQ => bX8_byteAt_0 l K hy (z := (r, M1)) hQ  hF)
