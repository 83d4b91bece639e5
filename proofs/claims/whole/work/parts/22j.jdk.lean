-- ===== J6_bitCount_0f7a4 (I)I
theorem jd_J6_bitCount_0f7a4 : yJ6_bitCount_0f7a4.cls ≠ "java/lang/invoke/MethodHandle" ∧ yJ6_bitCount_0f7a4.cls ≠ "java/lang/invoke/VarHandle" ∧ (parseMethodDescriptor yJ6_bitCount_0f7a4.desc).map (fun d => d.parameters.length) = some 1 := by decide +kernel
abbrev wqJ6_bitCount_0f7a4 : List Cond := .code yJ6_bitCount_0f7a4 cJ6_bitCount_0f7a4 1 (some .int) :: wsL_law
abbrev rmJ6_bitCount_0f7a4 : Room := { frames := 0, cells := 0, slots := 0, locals := 0 }
def fJ6_bitCount_0f7a4 (M : QM) (x0 : Int32) : Option (Int32 × QM) := (q_t (((x0.toUInt32 >>> ((1 : Int32).toUInt32 &&& Int32.toUInt32 31)).toInt32) &&& (1431655765 : Int32)) fun v1 => (q_t (((x0 - v1).toUInt32 >>> ((2 : Int32).toUInt32 &&& Int32.toUInt32 31)).toInt32) fun v2 => (q_t (((((x0 - v1) &&& (858993459 : Int32)) + (v2 &&& (858993459 : Int32))).toUInt32 >>> ((4 : Int32).toUInt32 &&& Int32.toUInt32 31)).toInt32) fun v3 => (q_t ((((x0 - v1) &&& (858993459 : Int32)) + (v2 &&& (858993459 : Int32))) + v3) fun v4 => (q_t (((v4 &&& (252645135 : Int32)).toUInt32 >>> ((8 : Int32).toUInt32 &&& Int32.toUInt32 31)).toInt32) fun v5 => (q_t ((((v4 &&& (252645135 : Int32)) + v5).toUInt32 >>> ((16 : Int32).toUInt32 &&& Int32.toUInt32 31)).toInt32) fun v6 => some ((((v4 &&& (252645135 : Int32)) + v5) + v6) &&& (63 : Int32), M)))))))
set_option maxRecDepth 100000 in
set_option maxHeartbeats 4000000 in
theorem bJ6_bitCount_0f7a4_0 {x : Cx} {y : Ly} (l : Launch) (K : VK x l rmJ6_bitCount_0f7a4 y 1 cJ6_bitCount_0f7a4 RJ6 wqJ6_bitCount_0f7a4) (hy : y.2.2.2.2 = 0) {z : Int32 × QM} (hQ : VQ x y (some (.int z.1)) z.2 (some .int)) {M : QM} {x0 : Int32} (hF : fJ6_bitCount_0f7a4 M x0 = some z) : V x y 1 M 0 [(0, .int x0)] [] := by
  unfold fJ6_bitCount_0f7a4 at hF
  refine v_iload_n (pc := 0) K dJ6_bitCount_0f7a4_0 0 rfl ?_
  refine v_iload_n (pc := 1) K dJ6_bitCount_0f7a4_1 0 rfl ?_
  refine v_iconst (pc := 2) (v := 1) K dJ6_bitCount_0f7a4_2 rfl ?_
  refine v_iushr (pc := 3) K dJ6_bitCount_0f7a4_3 ?_
  refine v_ldc_w (pc := 4) (v := 1431655765) K dJ6_bitCount_0f7a4_4 (List.mem_cons_of_mem _ jl_J6_265) ?_
  refine v_iand (pc := 7) K dJ6_bitCount_0f7a4_7 ?_
  refine v_nmI hF (fun v1 hF => ?_)
  refine v_isub (pc := 8) K dJ6_bitCount_0f7a4_8 ?_
  refine v_istore_n (pc := 9) (lv' := [(0, .int (x0 - v1))]) K dJ6_bitCount_0f7a4_9 0 rfl (by decide) rfl ?_
  refine v_iload_n (pc := 10) K dJ6_bitCount_0f7a4_10 0 rfl ?_
  refine v_ldc_w (pc := 11) (v := 858993459) K dJ6_bitCount_0f7a4_11 (List.mem_cons_of_mem _ jl_J6_266) ?_
  refine v_iand (pc := 14) K dJ6_bitCount_0f7a4_14 ?_
  refine v_iload_n (pc := 15) K dJ6_bitCount_0f7a4_15 0 rfl ?_
  refine v_iconst (pc := 16) (v := 2) K dJ6_bitCount_0f7a4_16 rfl ?_
  refine v_iushr (pc := 17) K dJ6_bitCount_0f7a4_17 ?_
  refine v_nmI hF (fun v2 hF => ?_)
  refine v_ldc_w (pc := 18) (v := 858993459) K dJ6_bitCount_0f7a4_18 (List.mem_cons_of_mem _ jl_J6_266) ?_
  refine v_iand (pc := 21) K dJ6_bitCount_0f7a4_21 ?_
  refine v_iadd (pc := 22) K dJ6_bitCount_0f7a4_22 ?_
  refine v_istore_n (pc := 23) (lv' := [(0, .int (((x0 - v1) &&& (858993459 : Int32)) + (v2 &&& (858993459 : Int32))))]) K dJ6_bitCount_0f7a4_23 0 rfl (by decide) rfl ?_
  refine v_iload_n (pc := 24) K dJ6_bitCount_0f7a4_24 0 rfl ?_
  refine v_iload_n (pc := 25) K dJ6_bitCount_0f7a4_25 0 rfl ?_
  refine v_iconst (pc := 26) (v := 4) K dJ6_bitCount_0f7a4_26 rfl ?_
  refine v_iushr (pc := 27) K dJ6_bitCount_0f7a4_27 ?_
  refine v_nmI hF (fun v3 hF => ?_)
  refine v_iadd (pc := 28) K dJ6_bitCount_0f7a4_28 ?_
  refine v_nmI hF (fun v4 hF => ?_)
  refine v_ldc_w (pc := 29) (v := 252645135) K dJ6_bitCount_0f7a4_29 (List.mem_cons_of_mem _ jl_J6_267) ?_
  refine v_iand (pc := 32) K dJ6_bitCount_0f7a4_32 ?_
  refine v_istore_n (pc := 33) (lv' := [(0, .int (v4 &&& (252645135 : Int32)))]) K dJ6_bitCount_0f7a4_33 0 rfl (by decide) rfl ?_
  refine v_iload_n (pc := 34) K dJ6_bitCount_0f7a4_34 0 rfl ?_
  refine v_iload_n (pc := 35) K dJ6_bitCount_0f7a4_35 0 rfl ?_
  refine v_bipush (pc := 36) (v := 8) K dJ6_bitCount_0f7a4_36 rfl ?_
  refine v_iushr (pc := 38) K dJ6_bitCount_0f7a4_38 ?_
  refine v_nmI hF (fun v5 hF => ?_)
  refine v_iadd (pc := 39) K dJ6_bitCount_0f7a4_39 ?_
  refine v_istore_n (pc := 40) (lv' := [(0, .int ((v4 &&& (252645135 : Int32)) + v5))]) K dJ6_bitCount_0f7a4_40 0 rfl (by decide) rfl ?_
  refine v_iload_n (pc := 41) K dJ6_bitCount_0f7a4_41 0 rfl ?_
  refine v_iload_n (pc := 42) K dJ6_bitCount_0f7a4_42 0 rfl ?_
  refine v_bipush (pc := 43) (v := 16) K dJ6_bitCount_0f7a4_43 rfl ?_
  refine v_iushr (pc := 45) K dJ6_bitCount_0f7a4_45 ?_
  refine v_nmI hF (fun v6 hF => ?_)
  refine v_iadd (pc := 46) K dJ6_bitCount_0f7a4_46 ?_
  refine v_istore_n (pc := 47) (lv' := [(0, .int (((v4 &&& (252645135 : Int32)) + v5) + v6))]) K dJ6_bitCount_0f7a4_47 0 rfl (by decide) rfl ?_
  refine v_iload_n (pc := 48) K dJ6_bitCount_0f7a4_48 0 rfl ?_
  refine v_bipush (pc := 49) (v := 63) K dJ6_bitCount_0f7a4_49 rfl ?_
  refine v_iand (pc := 51) K dJ6_bitCount_0f7a4_51 ?_
  have hz := (Option.some.inj hF).symm
  subst hz
  exact v_iret (pc := 52) K hQ dJ6_bitCount_0f7a4_52
set_option maxRecDepth 100000 in
set_option maxHeartbeats 4000000 in
theorem kJ6_bitCount_0f7a4 (l : Launch) {y : Ly} (hJ : ly_J y) (hy : y.2.2.2.2 = 0) {M M1 : QM} {r : Int32} {x0 : Int32} (hF : fJ6_bitCount_0f7a4 M x0 = some (r, M1)) : Met l yJ6_bitCount_0f7a4 wqJ6_bitCount_0f7a4 rmJ6_bitCount_0f7a4 (q_P y [.int x0] M) (q_E y (some (.int r)) M1) 0 0 (ly_A y) :=
  q_met (by decide) rfl hJ rfl rfl rfl (fun x K hQ => bJ6_bitCount_0f7a4_0 l K hy (z := (r, M1)) hQ  hF)
-- ===== X11_isWithin (III)Z
theorem jd_X11_isWithin : yX11_isWithin.cls ≠ "java/lang/invoke/MethodHandle" ∧ yX11_isWithin.cls ≠ "java/lang/invoke/VarHandle" ∧ (parseMethodDescriptor yX11_isWithin.desc).map (fun d => d.parameters.length) = some 3 := by decide +kernel
abbrev wqX11_isWithin : List Cond := .code yX11_isWithin cX11_isWithin 3 (some .boolean) :: wsL_law
abbrev rmX11_isWithin : Room := { frames := 0, cells := 0, slots := 0, locals := 0 }
def fX11_isWithin (M : QM) (x0 : Int32) (x1 : Int32) (x2 : Int32) : Option (Int32 × QM) := if x0 < x1 then some ((0 : Int32), M) else if x2 < x0 then some ((0 : Int32), M) else some ((1 : Int32), M)
set_option maxRecDepth 100000 in
set_option maxHeartbeats 4000000 in
theorem bX11_isWithin_0 {x : Cx} {y : Ly} (l : Launch) (K : VK x l rmX11_isWithin y 3 cX11_isWithin RX11 wqX11_isWithin) (hy : y.2.2.2.2 = 0) {z : Int32 × QM} (hQ : VQ x y (some (.int z.1)) z.2 (some .boolean)) {M : QM} {x0 : Int32} {x1 : Int32} {x2 : Int32} (hF : fX11_isWithin M x0 x1 x2 = some z) : V x y 3 M 0 [(0, .int x0), (1, .int x1), (2, .int x2)] [] := by
  unfold fX11_isWithin at hF
  refine v_iload_n (pc := 0) K dX11_isWithin_0 0 rfl ?_
  refine v_iload_n (pc := 1) K dX11_isWithin_1 1 rfl ?_
  refine v_icmp_lt (pc := 2) (tgt := 14) K dX11_isWithin_2 (by decide) hF (fun c2 hF => ?_) (fun c2 hF => ?_)
  · refine v_iconst (pc := 14) (v := 0) K dX11_isWithin_14 rfl ?_
    have hz := (Option.some.inj hF).symm
    subst hz
    exact v_zret (pc := 15) K hQ rfl dX11_isWithin_15
  · refine v_iload_n (pc := 5) K dX11_isWithin_5 0 rfl ?_
    refine v_iload_n (pc := 6) K dX11_isWithin_6 2 rfl ?_
    refine v_icmp_gt (pc := 7) (tgt := 14) K dX11_isWithin_7 (by decide) hF (fun c1 hF => ?_) (fun c1 hF => ?_)
    · refine v_iconst (pc := 14) (v := 0) K dX11_isWithin_14 rfl ?_
      have hz := (Option.some.inj hF).symm
      subst hz
      exact v_zret (pc := 15) K hQ rfl dX11_isWithin_15
    · refine v_iconst (pc := 10) (v := 1) K dX11_isWithin_10 rfl ?_
      refine v_goto (pc := 11) (tgt := 15) K dX11_isWithin_11 (by decide) ?_
      have hz := (Option.some.inj hF).symm
      subst hz
      exact v_zret (pc := 15) K hQ rfl dX11_isWithin_15
set_option maxRecDepth 100000 in
set_option maxHeartbeats 4000000 in
theorem kX11_isWithin (l : Launch) {y : Ly} (hJ : ly_J y) (hy : y.2.2.2.2 = 0) {M M1 : QM} {r : Int32} {x0 : Int32} {x1 : Int32} {x2 : Int32} (hF : fX11_isWithin M x0 x1 x2 = some (r, M1)) : Met l yX11_isWithin wqX11_isWithin rmX11_isWithin (q_P y [.int x0, .int x1, .int x2] M) (q_E y (some (.int r)) M1) 0 0 (ly_A y) :=
  q_met (by decide) rfl hJ rfl rfl rfl (fun x K hQ => bX11_isWithin_0 l K hy (z := (r, M1)) hQ  hF)
