-- ===== X0_set (LTwoCards$Book;IIILTwoCards$Code;LTwoCards$Code;)V
theorem jd_X0_set : yX0_set.cls = RX0 ∧ yX0_set.cls ≠ "java/lang/invoke/MethodHandle" ∧ yX0_set.cls ≠ "java/lang/invoke/VarHandle" ∧ (parseMethodDescriptor yX0_set.desc).map (fun d => d.parameters.length) = some 6 := by decide +kernel
abbrev wqX0_set : List Cond := .code yX0_set cX0_set 7 none :: wsL_law
abbrev rmX0_set : Room := { frames := 3, cells := 0, slots := 0, locals := 67 }
def fX0_set (M : QM) (o1 : Nat) (x2 : Int32) (x3 : Int32) (x4 : Int32) (o5 : Nat) (o6 : Nat) : Option QM := (q_bv (fX6_turnTo M 8 o1 x2 x3 x4) fun M3 => (q_bv (fX6_turnTo M3 9 o1 x3 x2 x4) fun M6 => (q_t (p_r M6 4 2 o5) fun M7 => (q_t (p_r M7 4 3 o6) fun M8 => (q_t (if (q_i M8 o6 10) < (q_i M8 o5 10) then (q_i M8 o6 10) else (q_i M8 o5 10)) fun v9 => (q_t (p_i M8 4 4 v9) fun M10 => (q_t (p_i M10 4 5 (0 : Int32)) fun M11 => (q_t (p_i M11 4 8 ((q_i M11 4 8) + (1 : Int32))) fun M12 => some M12))))))))
set_option maxRecDepth 100000 in
set_option maxHeartbeats 4000000 in
theorem bX0_set_0 {x : Cx} {y : Ly} (l : Launch) (K : VK x l rmX0_set y 7 cX0_set RX0 wqX0_set) (hy : y.2.2.2.2 = 0) {z : QM} (hQ : VQ x y none z none) {M : QM} {o1 : Nat} {x2 : Int32} {x3 : Int32} {x4 : Int32} {o5 : Nat} {o6 : Nat} (ho1 : kls o1 = 1) (ho5 : kls o5 = 2) (ho6 : kls o6 = 2) (hF : fX0_set M o1 x2 x3 x4 o5 o6 = some z) : V x y 7 M 0 [(0, .ref (ly_o y 4)), (1, .ref (ly_o y o1)), (2, .int x2), (3, .int x3), (4, .int x4), (5, .ref (ly_o y o5)), (6, .ref (ly_o y o6))] [] := by
  unfold fX0_set at hF
  refine v_aload_n (pc := 0) K dX0_set_0 0 rfl ?_
  refine gX0_ofFirst (pc := 1) K hy (by decide) jn_X0 (List.mem_cons_of_mem _ jl_X0_12) dX0_set_1 ?_
  refine v_aload_n (pc := 4) K dX0_set_4 1 rfl ?_
  refine v_iload_n (pc := 5) K dX0_set_5 2 rfl ?_
  refine v_iload_n (pc := 6) K dX0_set_6 3 rfl ?_
  refine v_iload (pc := 7) K dX0_set_7 4 rfl ?_
  obtain ⟨M3, hc1, hF⟩ := q_bvE hF
  refine v_callV (pc := 9) (ci := 6) (As := [.ref (ly_o y o1), .int x2, .int x3, .int x4]) (rest := []) (st' := []) (r := none) (M1 := M3) K (kX6_turnTo l K.2.2.2.2.2.2.1 hy (by decide) ho1 hc1) (jg_V jl_X0_38 jw_i_X6_turnTo jw_s_X6_turnTo jw_n_X6 jw_c_X6_turnTo) rfl rfl rfl jd_X6_turnTo ⟨Nat.le_of_ble_eq_true rfl, Nat.le_of_ble_eq_true rfl⟩ rfl rfl (Nat.le_of_ble_eq_true rfl) (by decide) (okc_0 hy (by decide)) rfl dX0_set_9 rfl ?_
  refine v_aload_n (pc := 12) K dX0_set_12 0 rfl ?_
  refine gX0_ofSecond (pc := 13) K hy (by decide) jn_X0 (List.mem_cons_of_mem _ jl_X0_18) dX0_set_13 ?_
  refine v_aload_n (pc := 16) K dX0_set_16 1 rfl ?_
  refine v_iload_n (pc := 17) K dX0_set_17 3 rfl ?_
  refine v_iload_n (pc := 18) K dX0_set_18 2 rfl ?_
  refine v_iload (pc := 19) K dX0_set_19 4 rfl ?_
  obtain ⟨M6, hc4, hF⟩ := q_bvE hF
  refine v_callV (pc := 21) (ci := 6) (As := [.ref (ly_o y o1), .int x3, .int x2, .int x4]) (rest := []) (st' := []) (r := none) (M1 := M6) K (kX6_turnTo l K.2.2.2.2.2.2.1 hy (by decide) ho1 hc4) (jg_V jl_X0_38 jw_i_X6_turnTo jw_s_X6_turnTo jw_n_X6 jw_c_X6_turnTo) rfl rfl rfl jd_X6_turnTo ⟨Nat.le_of_ble_eq_true rfl, Nat.le_of_ble_eq_true rfl⟩ rfl rfl (Nat.le_of_ble_eq_true rfl) (by decide) (okc_0 hy (by decide)) rfl dX0_set_21 rfl ?_
  refine v_aload_n (pc := 24) K dX0_set_24 0 rfl ?_
  refine v_aload (pc := 25) K dX0_set_25 5 rfl ?_
  refine pX0_firstCode (pc := 27) K hy ho5 (by decide) jn_X0 (List.mem_cons_of_mem _ jl_X0_24) dX0_set_27 ?_
  refine v_nmM hF (fun M7 hF => ?_)
  refine v_aload_n (pc := 30) K dX0_set_30 0 rfl ?_
  refine v_aload (pc := 31) K dX0_set_31 6 rfl ?_
  refine pX0_secondCode (pc := 33) K hy ho6 (by decide) jn_X0 (List.mem_cons_of_mem _ jl_X0_28) dX0_set_33 ?_
  refine v_nmM hF (fun M8 hF => ?_)
  refine v_aload_n (pc := 36) K dX0_set_36 0 rfl ?_
  refine v_aload (pc := 37) K dX0_set_37 5 rfl ?_
  refine gX2_hours (pc := 39) K hy ho5 jn_X2 (List.mem_cons_of_mem _ jl_X0_42) dX0_set_39 ?_
  refine v_aload (pc := 42) K dX0_set_42 6 rfl ?_
  refine gX2_hours (pc := 44) K hy ho6 jn_X2 (List.mem_cons_of_mem _ jl_X0_42) dX0_set_44 ?_
  refine v_mmin (pc := 47) K dX0_set_47 (List.mem_cons_of_mem _ jl_X0_46) (List.mem_cons_of_mem _ jw_t_mmin) (List.mem_cons_of_mem _ jw_n_java_lang_Math) (List.mem_cons_of_mem _ jw_c_mmin) (Nat.le_of_ble_eq_true rfl) (Nat.le_of_ble_eq_true rfl) ?_
  refine v_nmI hF (fun v9 hF => ?_)
  refine pX0_hours (pc := 50) K hy (by decide) jn_X0 (List.mem_cons_of_mem _ jl_X0_52) dX0_set_50 ?_
  refine v_nmM hF (fun M10 hF => ?_)
  refine v_aload_n (pc := 53) K dX0_set_53 0 rfl ?_
  refine v_iconst (pc := 54) (v := 0) K dX0_set_54 rfl ?_
  refine pX0_raised (pc := 55) K hy (by decide) jn_X0 (List.mem_cons_of_mem _ jl_X0_53) dX0_set_55 ?_
  refine v_nmM hF (fun M11 hF => ?_)
  refine v_aload_n (pc := 58) K dX0_set_58 0 rfl ?_
  refine v_dup (pc := 59) K dX0_set_59 rfl ?_
  refine gX0_mark (pc := 60) K hy (by decide) jn_X0 (List.mem_cons_of_mem _ jl_X0_56) dX0_set_60 ?_
  refine v_iconst (pc := 63) (v := 1) K dX0_set_63 rfl ?_
  refine v_iadd (pc := 64) K dX0_set_64 ?_
  refine pX0_mark (pc := 65) K hy (by decide) jn_X0 (List.mem_cons_of_mem _ jl_X0_56) dX0_set_65 ?_
  refine v_nmM hF (fun M12 hF => ?_)
  have hz := (Option.some.inj hF).symm
  subst hz
  exact v_vret (pc := 68) K hQ dX0_set_68
set_option maxRecDepth 100000 in
set_option maxHeartbeats 4000000 in
theorem kX0_set (l : Launch) {y : Ly} (hJ : ly_J y) (hy : y.2.2.2.2 = 0) {M M1 : QM} {o1 : Nat} {x2 : Int32} {x3 : Int32} {x4 : Int32} {o5 : Nat} {o6 : Nat} (ho1 : kls o1 = 1) (ho5 : kls o5 = 2) (ho6 : kls o6 = 2) (hF : fX0_set M o1 x2 x3 x4 o5 o6 = some M1) : Met l yX0_set wqX0_set rmX0_set (q_P y [.ref (ly_o y 4), .ref (ly_o y o1), .int x2, .int x3, .int x4, .ref (ly_o y o5), .ref (ly_o y o6)] M) (q_E y none M1) 0 0 (ly_A y) :=
  q_met (by decide) rfl hJ rfl rfl rfl (fun x K hQ => bX0_set_0 l K hy (z := M1) hQ ho1 ho5 ho6 hF)
-- ===== X0_open (IZ)I
theorem jd_X0_open : yX0_open.cls = RX0 ∧ yX0_open.cls ≠ "java/lang/invoke/MethodHandle" ∧ yX0_open.cls ≠ "java/lang/invoke/VarHandle" ∧ (parseMethodDescriptor yX0_open.desc).map (fun d => d.parameters.length) = some 2 := by decide +kernel
abbrev wqX0_open : List Cond := .code yX0_open cX0_open 5 (some .int) :: wsL_law
abbrev rmX0_open : Room := { frames := 3, cells := 0, slots := 0, locals := 70 }
def fX0_open_b35 (M : QM) (s0 : Int32) : Option (Int32 × QM) := (q_b (fX7_of M (0 : Int32) s0 (q_i M 4 4) (1 : Int32) (0 : Int32)) fun r10 M11 => if s0 ≠ (0 : Int32) then some (r10, M11) else (q_b (fX7_ended M11 r10 (1 : Int32) (0 : Int32)) fun r13 M14 => some (r13, M14)))
set_option maxRecDepth 100000 in
set_option maxHeartbeats 4000000 in
theorem bX0_open_35 {x : Cx} {y : Ly} (l : Launch) (K : VK x l rmX0_open y 5 cX0_open RX0 wqX0_open) (hy : y.2.2.2.2 = 0) {z : Int32 × QM} (hQ : VQ x y (some (.int z.1)) z.2 (some .int)) {M : QM} {s0 : Int32} (hF : fX0_open_b35 M s0 = some z) : V x y 5 M 35 [(0, .ref (ly_o y 4))] [.int s0] := by
  unfold fX0_open_b35 at hF
  refine v_istore_n (pc := 35) (lv' := [(3, .int s0), (0, .ref (ly_o y 4))]) K dX0_open_35 3 rfl (by decide) rfl ?_
  refine v_iconst (pc := 36) (v := 0) K dX0_open_36 rfl ?_
  refine v_iload_n (pc := 37) K dX0_open_37 0 rfl ?_
  refine v_aload_n (pc := 38) K dX0_open_38 1 rfl ?_
  refine gX0_hours (pc := 39) K hy (by decide) jn_X0 (List.mem_cons_of_mem _ jl_X0_52) dX0_open_39 ?_
  refine v_iconst (pc := 42) (v := 1) K dX0_open_42 rfl ?_
  refine v_iconst (pc := 43) (v := 0) K dX0_open_43 rfl ?_
  obtain ⟨r10, M11, hc9, hF⟩ := q_bE hF
  refine v_callS (pc := 44) (As := [.int (0 : Int32), .int s0, .int (q_i M 4 4), .int (1 : Int32), .int (0 : Int32)]) (rest := []) (st' := [.int r10]) (r := some (.int r10)) (M1 := M11) K (kX7_of l K.2.2.2.2.2.2.1 hy hc9) (jg_S jl_X0_67 jw_t_X7_of jw_n_X7 jw_c_X7_of) rfl rfl rfl jd_X7_of ⟨Nat.le_of_ble_eq_true rfl, Nat.le_of_ble_eq_true rfl⟩ rfl rfl (Nat.le_of_ble_eq_true rfl) dX0_open_44 rfl ?_
  refine v_istore (pc := 47) (lv' := [(4, .int r10), (3, .int s0), (0, .ref (ly_o y 4))]) K 4 dX0_open_47 (by decide) rfl ?_
  refine v_iload_n (pc := 49) K dX0_open_49 1 rfl ?_
  refine v_if_ne (pc := 50) (tgt := 63) K dX0_open_50 (by decide) hF (fun c15 hF => ?_) (fun c15 hF => ?_)
  · refine v_iload (pc := 63) K dX0_open_63 0 rfl ?_
    have hz := (Option.some.inj hF).symm
    subst hz
    exact v_iret (pc := 65) K hQ dX0_open_65
  · refine v_iload (pc := 53) K dX0_open_53 0 rfl ?_
    refine v_iconst (pc := 55) (v := 1) K dX0_open_55 rfl ?_
    refine v_iconst (pc := 56) (v := 0) K dX0_open_56 rfl ?_
    obtain ⟨r13, M14, hc12, hF⟩ := q_bE hF
    refine v_callS (pc := 57) (As := [.int r10, .int (1 : Int32), .int (0 : Int32)]) (rest := []) (st' := [.int r13]) (r := some (.int r13)) (M1 := M14) K (kX7_ended l K.2.2.2.2.2.2.1 hy hc12) (jg_S jl_X0_73 jw_t_X7_ended jw_n_X7 jw_c_X7_ended) rfl rfl rfl jd_X7_ended ⟨Nat.le_of_ble_eq_true rfl, Nat.le_of_ble_eq_true rfl⟩ rfl rfl (Nat.le_of_ble_eq_true rfl) dX0_open_57 rfl ?_
    refine v_goto (pc := 60) (tgt := 65) K dX0_open_60 (by decide) ?_
    have hz := (Option.some.inj hF).symm
    subst hz
    exact v_iret (pc := 65) K hQ dX0_open_65
def fX0_open (M : QM) (x1 : Int32) (x2 : Int32) : Option (Int32 × QM) := (q_bv (fX6_setHour M 8 (0 : Int32) (0 : Int32) (0 : Int32)) fun M3 => if x2 = (0 : Int32) then (fX0_open_b35 M3 (0 : Int32)) else (q_b (fX2_weight M3 (q_r M3 4 3) x1 8) fun r6 M7 => (fX0_open_b35 M7 (if r6 < (15 : Int32) then r6 else (15 : Int32)))))
set_option maxRecDepth 100000 in
set_option maxHeartbeats 4000000 in
theorem bX0_open_0 {x : Cx} {y : Ly} (l : Launch) (K : VK x l rmX0_open y 5 cX0_open RX0 wqX0_open) (hy : y.2.2.2.2 = 0) {z : Int32 × QM} (hQ : VQ x y (some (.int z.1)) z.2 (some .int)) {M : QM} {x1 : Int32} {x2 : Int32} (hF : fX0_open M x1 x2 = some z) : V x y 5 M 0 [(0, .ref (ly_o y 4)), (1, .int x1), (2, .int x2)] [] := by
  unfold fX0_open at hF
  refine v_aload_n (pc := 0) K dX0_open_0 0 rfl ?_
  refine gX0_ofFirst (pc := 1) K hy (by decide) jn_X0 (List.mem_cons_of_mem _ jl_X0_12) dX0_open_1 ?_
  refine v_iconst (pc := 4) (v := 0) K dX0_open_4 rfl ?_
  refine v_iconst (pc := 5) (v := 0) K dX0_open_5 rfl ?_
  refine v_iconst (pc := 6) (v := 0) K dX0_open_6 rfl ?_
  obtain ⟨M3, hc1, hF⟩ := q_bvE hF
  refine v_callV (pc := 7) (ci := 6) (As := [.int (0 : Int32), .int (0 : Int32), .int (0 : Int32)]) (rest := []) (st' := []) (r := none) (M1 := M3) K (kX6_setHour l K.2.2.2.2.2.2.1 hy (by decide) hc1) (jg_V jl_X0_59 jw_i_X6_setHour jw_s_X6_setHour jw_n_X6 jw_c_X6_setHour) rfl rfl rfl jd_X6_setHour ⟨Nat.le_of_ble_eq_true rfl, Nat.le_of_ble_eq_true rfl⟩ rfl rfl (Nat.le_of_ble_eq_true rfl) (by decide) (okc_0 hy (by decide)) rfl dX0_open_7 rfl ?_
  refine v_iload_n (pc := 10) K dX0_open_10 2 rfl ?_
  refine v_if_eq (pc := 11) (tgt := 34) K dX0_open_11 (by decide) hF (fun c8 hF => ?_) (fun c8 hF => ?_)
  · refine v_iconst (pc := 34) (v := 0) K dX0_open_34 rfl ?_
    refine v_sub [0] rfl ?_
    exact bX0_open_35 l K hy hQ hF
  · refine v_bipush (pc := 14) (v := 15) K dX0_open_14 rfl ?_
    refine v_aload_n (pc := 16) K dX0_open_16 0 rfl ?_
    refine gX0_secondCode (pc := 17) K hy (by decide) jn_X0 (List.mem_cons_of_mem _ jl_X0_28) dX0_open_17 ?_
    refine v_known (o := 4) (c := 0) (j := 3) (by decide) (okc_0 hy (by decide)) (by decide) rfl (fun hr4 => ?_)
    refine v_iload_n (pc := 20) K dX0_open_20 1 rfl ?_
    refine v_aload_n (pc := 21) K dX0_open_21 0 rfl ?_
    refine gX0_ofFirst (pc := 22) K hy (by decide) jn_X0 (List.mem_cons_of_mem _ jl_X0_12) dX0_open_22 ?_
    obtain ⟨r6, M7, hc5, hF⟩ := q_bE hF
    refine v_callV (pc := 25) (ci := 2) (As := [.int x1, .ref (ly_o y 8)]) (rest := [.int (15 : Int32)]) (st' := [.int r6, .int (15 : Int32)]) (r := some (.int r6)) (M1 := M7) K (kX2_weight l K.2.2.2.2.2.2.1 hy hr4 (by decide) hc5) (jg_V jl_X0_63 jw_i_X2_weight jw_s_X2_weight jw_n_X2 jw_c_X2_weight) rfl rfl rfl jd_X2_weight ⟨Nat.le_of_ble_eq_true rfl, Nat.le_of_ble_eq_true rfl⟩ rfl rfl (Nat.le_of_ble_eq_true rfl) hr4 (okc_0 hy (by decide)) rfl dX0_open_25 rfl ?_
    refine v_mmin (pc := 28) K dX0_open_28 (List.mem_cons_of_mem _ jl_X0_46) (List.mem_cons_of_mem _ jw_t_mmin) (List.mem_cons_of_mem _ jw_n_java_lang_Math) (List.mem_cons_of_mem _ jw_c_mmin) (Nat.le_of_ble_eq_true rfl) (Nat.le_of_ble_eq_true rfl) ?_
    refine v_goto (pc := 31) (tgt := 35) K dX0_open_31 (by decide) ?_
    refine v_sub [0] rfl ?_
    exact bX0_open_35 l K hy hQ hF
set_option maxRecDepth 100000 in
set_option maxHeartbeats 4000000 in
theorem kX0_open (l : Launch) {y : Ly} (hJ : ly_J y) (hy : y.2.2.2.2 = 0) {M M1 : QM} {r : Int32} {x1 : Int32} {x2 : Int32} (hF : fX0_open M x1 x2 = some (r, M1)) : Met l yX0_open wqX0_open rmX0_open (q_P y [.ref (ly_o y 4), .int x1, .int x2] M) (q_E y (some (.int r)) M1) 0 0 (ly_A y) :=
  q_met (by decide) rfl hJ rfl rfl rfl (fun x K hQ => bX0_open_0 l K hy (z := (r, M1)) hQ  hF)
-- ===== X0_codeOf (I)LTwoCards$Code;
theorem jd_X0_codeOf : yX0_codeOf.cls = RX0 ∧ yX0_codeOf.cls ≠ "java/lang/invoke/MethodHandle" ∧ yX0_codeOf.cls ≠ "java/lang/invoke/VarHandle" ∧ (parseMethodDescriptor yX0_codeOf.desc).map (fun d => d.parameters.length) = some 1 := by decide +kernel
abbrev wqX0_codeOf : List Cond := .code yX0_codeOf cX0_codeOf 2 (some (.object "TwoCards$Code")) :: wsL_law
abbrev rmX0_codeOf : Room := { frames := 0, cells := 0, slots := 0, locals := 0 }
def fX0_codeOf (M : QM) (x1 : Int32) : Option (Nat × QM) := if x1 ≠ (0 : Int32) then some (q_r M 4 3, M) else some (q_r M 4 2, M)
set_option maxRecDepth 100000 in
set_option maxHeartbeats 4000000 in
theorem bX0_codeOf_0 {x : Cx} {y : Ly} (l : Launch) (K : VK x l rmX0_codeOf y 2 cX0_codeOf RX0 wqX0_codeOf) (hy : y.2.2.2.2 = 0) {z : Nat × QM} (hQ : VQ x y (some (.ref (ly_o y z.1))) z.2 (some (.object "TwoCards$Code"))) {M : QM} {x1 : Int32} (hF : fX0_codeOf M x1 = some z) : V x y 2 M 0 [(0, .ref (ly_o y 4)), (1, .int x1)] [] := by
  unfold fX0_codeOf at hF
  refine v_iload_n (pc := 0) K dX0_codeOf_0 1 rfl ?_
  refine v_if_ne (pc := 1) (tgt := 11) K dX0_codeOf_1 (by decide) hF (fun c3 hF => ?_) (fun c3 hF => ?_)
  · refine v_aload_n (pc := 11) K dX0_codeOf_11 0 rfl ?_
    refine gX0_secondCode (pc := 12) K hy (by decide) jn_X0 (List.mem_cons_of_mem _ jl_X0_28) dX0_codeOf_12 ?_
    refine v_known (o := 4) (c := 0) (j := 3) (by decide) (okc_0 hy (by decide)) (by decide) rfl (fun hr1 => ?_)
    have hz := (Option.some.inj hF).symm
    subst hz
    exact v_aret (pc := 15) K hQ (Or.inl ⟨_, rfl⟩) dX0_codeOf_15
  · refine v_aload_n (pc := 4) K dX0_codeOf_4 0 rfl ?_
    refine gX0_firstCode (pc := 5) K hy (by decide) jn_X0 (List.mem_cons_of_mem _ jl_X0_24) dX0_codeOf_5 ?_
    refine v_known (o := 4) (c := 0) (j := 2) (by decide) (okc_0 hy (by decide)) (by decide) rfl (fun hr2 => ?_)
    refine v_goto (pc := 8) (tgt := 15) K dX0_codeOf_8 (by decide) ?_
    have hz := (Option.some.inj hF).symm
    subst hz
    exact v_aret (pc := 15) K hQ (Or.inl ⟨_, rfl⟩) dX0_codeOf_15
set_option maxRecDepth 100000 in
set_option maxHeartbeats 4000000 in
theorem kX0_codeOf (l : Launch) {y : Ly} (hJ : ly_J y) (hy : y.2.2.2.2 = 0) {M M1 : QM} {r : Nat} {x1 : Int32} (hF : fX0_codeOf M x1 = some (r, M1)) : Met l yX0_codeOf wqX0_codeOf rmX0_codeOf (q_P y [.ref (ly_o y 4), .int x1] M) (q_E y (some (.ref (ly_o y r))) M1) 0 0 (ly_A y) :=
  q_met (by decide) rfl hJ rfl rfl rfl (fun x K hQ => bX0_codeOf_0 l K hy (z := (r, M1)) hQ  hF)
-- ===== X0_allows (II)Z
theorem jd_X0_allows : yX0_allows.cls = RX0 ∧ yX0_allows.cls ≠ "java/lang/invoke/MethodHandle" ∧ yX0_allows.cls ≠ "java/lang/invoke/VarHandle" ∧ (parseMethodDescriptor yX0_allows.desc).map (fun d => d.parameters.length) = some 2 := by decide +kernel
abbrev wqX0_allows : List Cond := .code yX0_allows cX0_allows 4 (some .boolean) :: wsL_law
abbrev rmX0_allows : Room := { frames := 1, cells := 0, slots := 0, locals := 21 }
def fX0_allows (M : QM) (x1 : Int32) (x2 : Int32) : Option (Int32 × QM) := (q_b (fX7_ending M x1) fun r2 M3 => if r2 ≠ (0 : Int32) then some ((0 : Int32), M3) else if x2 < (0 : Int32) then some ((0 : Int32), M3) else if x2 < (11 : Int32) then (q_b (fX7_asked M3 x1) fun r5 M6 => if r5 = (0 : Int32) then (q_b (fX7_turn M6 x1) fun r8 M9 => if (4 : Int32) ≤ x2 then if (8 : Int32) ≤ x2 then if x2 ≠ (8 : Int32) then if x2 ≠ (10 : Int32) then some ((0 : Int32), M9) else some ((1 : Int32), M9) else (q_b (fX7_owed M9 x1 r8) fun r12 M13 => (q_b (fX0_codeOf M13 r8) fun r15 M16 => (if kls r15 = 2 then if r12 < (q_i M16 r15 9) then some ((0 : Int32), M16) else some ((1 : Int32), M16) else none))) else (q_b (fX7_owed M9 x1 ((1 : Int32) - r8)) fun r21 M22 => if r21 ≤ (0 : Int32) then some ((0 : Int32), M22) else some ((1 : Int32), M22)) else some ((1 : Int32), M9)) else if x2 = (8 : Int32) then some ((1 : Int32), M6) else if x2 ≠ (9 : Int32) then some ((0 : Int32), M6) else some ((1 : Int32), M6)) else some ((0 : Int32), M3))
set_option maxRecDepth 100000 in
set_option maxHeartbeats 4000000 in
theorem bX0_allows_0 {x : Cx} {y : Ly} (l : Launch) (K : VK x l rmX0_allows y 4 cX0_allows RX0 wqX0_allows) (hy : y.2.2.2.2 = 0) {z : Int32 × QM} (hQ : VQ x y (some (.int z.1)) z.2 (some .boolean)) {M : QM} {x1 : Int32} {x2 : Int32} (hF : fX0_allows M x1 x2 = some z) : V x y 4 M 0 [(0, .ref (ly_o y 4)), (1, .int x1), (2, .int x2)] [] := by
  unfold fX0_allows at hF
  refine v_iload_n (pc := 0) K dX0_allows_0 1 rfl ?_
  obtain ⟨r2, M3, hc1, hF⟩ := q_bE hF
  refine v_callS (pc := 1) (As := [.int x1]) (rest := []) (st' := [.int r2]) (r := some (.int r2)) (M1 := M3) K (kX7_ending l K.2.2.2.2.2.2.1 hy hc1) (jg_S jl_X0_77 jw_t_X7_ending jw_n_X7 jw_c_X7_ending) rfl rfl rfl jd_X7_ending ⟨Nat.le_of_ble_eq_true rfl, Nat.le_of_ble_eq_true rfl⟩ rfl rfl (Nat.le_of_ble_eq_true rfl) dX0_allows_1 rfl ?_
  refine v_if_ne (pc := 4) (tgt := 17) K dX0_allows_4 (by decide) hF (fun c31 hF => ?_) (fun c31 hF => ?_)
  · refine v_iconst (pc := 17) (v := 0) K dX0_allows_17 rfl ?_
    have hz := (Option.some.inj hF).symm
    subst hz
    exact v_zret (pc := 18) K hQ rfl dX0_allows_18
  · refine v_iload_n (pc := 7) K dX0_allows_7 2 rfl ?_
    refine v_if_lt (pc := 8) (tgt := 17) K dX0_allows_8 (by decide) hF (fun c30 hF => ?_) (fun c30 hF => ?_)
    · refine v_iconst (pc := 17) (v := 0) K dX0_allows_17 rfl ?_
      have hz := (Option.some.inj hF).symm
      subst hz
      exact v_zret (pc := 18) K hQ rfl dX0_allows_18
    · refine v_iload_n (pc := 11) K dX0_allows_11 2 rfl ?_
      refine v_bipush (pc := 12) (v := 11) K dX0_allows_12 rfl ?_
      refine v_icmp_lt (pc := 14) (tgt := 19) K dX0_allows_14 (by decide) hF (fun c29 hF => ?_) (fun c29 hF => ?_)
      · refine v_iload_n (pc := 19) K dX0_allows_19 1 rfl ?_
        obtain ⟨r5, M6, hc4, hF⟩ := q_bE hF
        refine v_callS (pc := 20) (As := [.int x1]) (rest := []) (st' := [.int r5]) (r := some (.int r5)) (M1 := M6) K (kX7_asked l K.2.2.2.2.2.2.1 hy hc4) (jg_S jl_X0_81 jw_t_X7_asked jw_n_X7 jw_c_X7_asked) rfl rfl rfl jd_X7_asked ⟨Nat.le_of_ble_eq_true rfl, Nat.le_of_ble_eq_true rfl⟩ rfl rfl (Nat.le_of_ble_eq_true rfl) dX0_allows_20 rfl ?_
        refine v_if_eq (pc := 23) (tgt := 44) K dX0_allows_23 (by decide) hF (fun c28 hF => ?_) (fun c28 hF => ?_)
        · refine v_iload_n (pc := 44) K dX0_allows_44 1 rfl ?_
          obtain ⟨r8, M9, hc7, hF⟩ := q_bE hF
          refine v_callS (pc := 45) (As := [.int x1]) (rest := []) (st' := [.int r8]) (r := some (.int r8)) (M1 := M9) K (kX7_turn l K.2.2.2.2.2.2.1 hy hc7) (jg_S jl_X0_84 jw_t_X7_turn jw_n_X7 jw_c_X7_turn) rfl rfl rfl jd_X7_turn ⟨Nat.le_of_ble_eq_true rfl, Nat.le_of_ble_eq_true rfl⟩ rfl rfl (Nat.le_of_ble_eq_true rfl) dX0_allows_45 rfl ?_
          refine v_istore_n (pc := 48) (lv' := [(3, .int r8), (0, .ref (ly_o y 4)), (1, .int x1), (2, .int x2)]) K dX0_allows_48 3 rfl (by decide) rfl ?_
          refine v_iload_n (pc := 49) K dX0_allows_49 3 rfl ?_
          refine v_iconst (pc := 50) (v := 4) K dX0_allows_50 rfl ?_
          refine v_icmp_ge (pc := 51) (tgt := 56) K dX0_allows_51 (by decide) hF (fun c25 hF => ?_) (fun c25 hF => ?_)
          · refine v_iload_n (pc := 56) K dX0_allows_56 3 rfl ?_
            refine v_bipush (pc := 57) (v := 8) K dX0_allows_57 rfl ?_
            refine v_icmp_ge (pc := 59) (tgt := 78) K dX0_allows_59 (by decide) hF (fun c24 hF => ?_) (fun c24 hF => ?_)
            · refine v_iload_n (pc := 78) K dX0_allows_78 3 rfl ?_
              refine v_bipush (pc := 79) (v := 8) K dX0_allows_79 rfl ?_
              refine v_icmp_ne (pc := 81) (tgt := 106) K dX0_allows_81 (by decide) hF (fun c19 hF => ?_) (fun c19 hF => ?_)
              · refine v_iload_n (pc := 106) K dX0_allows_106 3 rfl ?_
                refine v_bipush (pc := 107) (v := 10) K dX0_allows_107 rfl ?_
                refine v_icmp_ne (pc := 109) (tgt := 116) K dX0_allows_109 (by decide) hF (fun c10 hF => ?_) (fun c10 hF => ?_)
                · refine v_iconst (pc := 116) (v := 0) K dX0_allows_116 rfl ?_
                  have hz := (Option.some.inj hF).symm
                  subst hz
                  exact v_zret (pc := 117) K hQ rfl dX0_allows_117
                · refine v_iconst (pc := 112) (v := 1) K dX0_allows_112 rfl ?_
                  refine v_goto (pc := 113) (tgt := 117) K dX0_allows_113 (by decide) ?_
                  have hz := (Option.some.inj hF).symm
                  subst hz
                  exact v_zret (pc := 117) K hQ rfl dX0_allows_117
              · refine v_iload_n (pc := 84) K dX0_allows_84 2 rfl ?_
                refine v_iload_n (pc := 85) K dX0_allows_85 0 rfl ?_
                obtain ⟨r12, M13, hc11, hF⟩ := q_bE hF
                refine v_callS (pc := 86) (As := [.int x1, .int r8]) (rest := []) (st' := [.int r12]) (r := some (.int r12)) (M1 := M13) K (kX7_owed l K.2.2.2.2.2.2.1 hy hc11) (jg_S jl_X0_87 jw_t_X7_owed jw_n_X7 jw_c_X7_owed) rfl rfl rfl jd_X7_owed ⟨Nat.le_of_ble_eq_true rfl, Nat.le_of_ble_eq_true rfl⟩ rfl rfl (Nat.le_of_ble_eq_true rfl) dX0_allows_86 rfl ?_
                refine v_aload_n (pc := 89) K dX0_allows_89 1 rfl ?_
                refine v_iload_n (pc := 90) K dX0_allows_90 0 rfl ?_
                obtain ⟨r15, M16, hc14, hF⟩ := q_bE hF
                obtain ⟨ho17, hF⟩ := q_kE hF
                refine v_callV (pc := 91) (ci := 0) (As := [.int r8]) (rest := [.int r12]) (st' := [.ref (ly_o y r15), .int r12]) (r := some (.ref (ly_o y r15))) (M1 := M16) K (kX0_codeOf l K.2.2.2.2.2.2.1 hy hc14) (jg_V jl_X0_90 jw_i_X0_codeOf jw_s_X0_codeOf jw_n_X0 jw_c_X0_codeOf) rfl rfl rfl jd_X0_codeOf ⟨Nat.le_of_ble_eq_true rfl, Nat.le_of_ble_eq_true rfl⟩ rfl rfl (Nat.le_of_ble_eq_true rfl) (by decide) (okc_0 hy (by decide)) rfl dX0_allows_91 rfl ?_
                refine gX2_ask (pc := 94) K hy ho17 jn_X2 (List.mem_cons_of_mem _ jl_X0_94) dX0_allows_94 ?_
                refine v_icmp_lt (pc := 97) (tgt := 104) K dX0_allows_97 (by decide) hF (fun c18 hF => ?_) (fun c18 hF => ?_)
                · refine v_iconst (pc := 104) (v := 0) K dX0_allows_104 rfl ?_
                  have hz := (Option.some.inj hF).symm
                  subst hz
                  exact v_zret (pc := 105) K hQ rfl dX0_allows_105
                · refine v_iconst (pc := 100) (v := 1) K dX0_allows_100 rfl ?_
                  refine v_goto (pc := 101) (tgt := 105) K dX0_allows_101 (by decide) ?_
                  have hz := (Option.some.inj hF).symm
                  subst hz
                  exact v_zret (pc := 105) K hQ rfl dX0_allows_105
            · refine v_iload_n (pc := 62) K dX0_allows_62 2 rfl ?_
              refine v_iconst (pc := 63) (v := 1) K dX0_allows_63 rfl ?_
              refine v_iload_n (pc := 64) K dX0_allows_64 0 rfl ?_
              refine v_isub (pc := 65) K dX0_allows_65 ?_
              obtain ⟨r21, M22, hc20, hF⟩ := q_bE hF
              refine v_callS (pc := 66) (As := [.int x1, .int ((1 : Int32) - r8)]) (rest := []) (st' := [.int r21]) (r := some (.int r21)) (M1 := M22) K (kX7_owed l K.2.2.2.2.2.2.1 hy hc20) (jg_S jl_X0_87 jw_t_X7_owed jw_n_X7 jw_c_X7_owed) rfl rfl rfl jd_X7_owed ⟨Nat.le_of_ble_eq_true rfl, Nat.le_of_ble_eq_true rfl⟩ rfl rfl (Nat.le_of_ble_eq_true rfl) dX0_allows_66 rfl ?_
              refine v_if_le (pc := 69) (tgt := 76) K dX0_allows_69 (by decide) hF (fun c23 hF => ?_) (fun c23 hF => ?_)
              · refine v_iconst (pc := 76) (v := 0) K dX0_allows_76 rfl ?_
                have hz := (Option.some.inj hF).symm
                subst hz
                exact v_zret (pc := 77) K hQ rfl dX0_allows_77
              · refine v_iconst (pc := 72) (v := 1) K dX0_allows_72 rfl ?_
                refine v_goto (pc := 73) (tgt := 77) K dX0_allows_73 (by decide) ?_
                have hz := (Option.some.inj hF).symm
                subst hz
                exact v_zret (pc := 77) K hQ rfl dX0_allows_77
          · refine v_iconst (pc := 54) (v := 1) K dX0_allows_54 rfl ?_
            have hz := (Option.some.inj hF).symm
            subst hz
            exact v_zret (pc := 55) K hQ rfl dX0_allows_55
        · refine v_iload_n (pc := 26) K dX0_allows_26 2 rfl ?_
          refine v_bipush (pc := 27) (v := 8) K dX0_allows_27 rfl ?_
          refine v_icmp_eq (pc := 29) (tgt := 38) K dX0_allows_29 (by decide) hF (fun c27 hF => ?_) (fun c27 hF => ?_)
          · refine v_iconst (pc := 38) (v := 1) K dX0_allows_38 rfl ?_
            refine v_goto (pc := 39) (tgt := 43) K dX0_allows_39 (by decide) ?_
            have hz := (Option.some.inj hF).symm
            subst hz
            exact v_zret (pc := 43) K hQ rfl dX0_allows_43
          · refine v_iload_n (pc := 32) K dX0_allows_32 2 rfl ?_
            refine v_bipush (pc := 33) (v := 9) K dX0_allows_33 rfl ?_
            refine v_icmp_ne (pc := 35) (tgt := 42) K dX0_allows_35 (by decide) hF (fun c26 hF => ?_) (fun c26 hF => ?_)
            · refine v_iconst (pc := 42) (v := 0) K dX0_allows_42 rfl ?_
              have hz := (Option.some.inj hF).symm
              subst hz
              exact v_zret (pc := 43) K hQ rfl dX0_allows_43
            · refine v_iconst (pc := 38) (v := 1) K dX0_allows_38 rfl ?_
              refine v_goto (pc := 39) (tgt := 43) K dX0_allows_39 (by decide) ?_
              have hz := (Option.some.inj hF).symm
              subst hz
              exact v_zret (pc := 43) K hQ rfl dX0_allows_43
      · refine v_iconst (pc := 17) (v := 0) K dX0_allows_17 rfl ?_
        have hz := (Option.some.inj hF).symm
        subst hz
        exact v_zret (pc := 18) K hQ rfl dX0_allows_18
set_option maxRecDepth 100000 in
set_option maxHeartbeats 4000000 in
theorem kX0_allows (l : Launch) {y : Ly} (hJ : ly_J y) (hy : y.2.2.2.2 = 0) {M M1 : QM} {r : Int32} {x1 : Int32} {x2 : Int32} (hF : fX0_allows M x1 x2 = some (r, M1)) : Met l yX0_allows wqX0_allows rmX0_allows (q_P y [.ref (ly_o y 4), .int x1, .int x2] M) (q_E y (some (.int r)) M1) 0 0 (ly_A y) :=
  q_met (by decide) rfl hJ rfl rfl rfl (fun x K hQ => bX0_allows_0 l K hy (z := (r, M1)) hQ  hF)
-- ===== X0_look (I)I
theorem jd_X0_look : yX0_look.cls = RX0 ∧ yX0_look.cls ≠ "java/lang/invoke/MethodHandle" ∧ yX0_look.cls ≠ "java/lang/invoke/VarHandle" ∧ (parseMethodDescriptor yX0_look.desc).map (fun d => d.parameters.length) = some 1 := by decide +kernel
abbrev wqX0_look : List Cond := .code yX0_look cX0_look 7 (some .int) :: wsL_law
abbrev rmX0_look : Room := { frames := 3, cells := 0, slots := 0, locals := 71 }
def fX0_look_b114 (M : QM) (x2 : Int32) (s0 : Int32) : Option (Int32 × QM) := (if q_in x2 4096 then (q_t (p_a M 4 7 x2.toNatClampNeg (q_i M 4 8)) fun M39 => (if q_in x2 4096 then (q_t (p_a M39 4 6 x2.toNatClampNeg s0) fun M41 => some (s0, M41)) else none)) else none)
set_option maxRecDepth 100000 in
set_option maxHeartbeats 4000000 in
theorem bX0_look_114 {x : Cx} {y : Ly} (l : Launch) (K : VK x l rmX0_look y 7 cX0_look RX0 wqX0_look) (hy : y.2.2.2.2 = 0) {z : Int32 × QM} (hQ : VQ x y (some (.int z.1)) z.2 (some .int)) {M : QM} {x2 : Int32} {s0 : Int32} (hF : fX0_look_b114 M x2 s0 = some z) : V x y 7 M 114 [(0, .ref (ly_o y 4)), (2, .int x2)] [.int s0] := by
  unfold fX0_look_b114 at hF
  refine v_istore (pc := 114) (lv' := [(6, .int s0), (0, .ref (ly_o y 4)), (2, .int x2)]) K 6 dX0_look_114 (by decide) rfl ?_
  refine v_aload_n (pc := 116) K dX0_look_116 1 rfl ?_
  refine gX0_marks (pc := 117) K hy (by decide) jn_X0 (List.mem_cons_of_mem _ jl_X0_35) dX0_look_117 ?_
  refine v_iload_n (pc := 120) K dX0_look_120 2 rfl ?_
  refine v_aload_n (pc := 121) K dX0_look_121 1 rfl ?_
  refine gX0_mark (pc := 122) K hy (by decide) jn_X0 (List.mem_cons_of_mem _ jl_X0_56) dX0_look_122 ?_
  refine uX0_marks (pc := 125) K hy (by decide) hF dX0_look_125 (fun hi38 hF => ?_)
  refine v_nmM hF (fun M39 hF => ?_)
  refine v_aload_n (pc := 126) K dX0_look_126 1 rfl ?_
  refine gX0_seen (pc := 127) K hy (by decide) jn_X0 (List.mem_cons_of_mem _ jl_X0_31) dX0_look_127 ?_
  refine v_iload_n (pc := 130) K dX0_look_130 2 rfl ?_
  refine v_iload (pc := 131) K dX0_look_131 0 rfl ?_
  refine uX0_seen (pc := 133) K hy (by decide) hF dX0_look_133 (fun hi40 hF => ?_)
  refine v_nmM hF (fun M41 hF => ?_)
  refine v_iload (pc := 134) K dX0_look_134 0 rfl ?_
  have hz := (Option.some.inj hF).symm
  subst hz
  exact v_iret (pc := 136) K hQ dX0_look_136
def fX0_look_b45 (M : QM) (x1 : Int32) (x2 : Int32) (x3 : Int32) (so0 : Nat) : Option (Int32 × QM) := (q_b (fX0_codeOf M ((1 : Int32) - x3)) fun r12 M13 => (if kls r12 = 2 then (q_b (fX7_owed M13 x1 ((1 : Int32) - x3)) fun r16 M17 => (q_b (fX7_owed M17 x1 x3) fun r19 M20 => (q_b (fX7_left M20 x1) fun r22 M23 => (q_bv (fX6_setHour M23 so0 r16 r19 ((q_i M20 4 4) - r22)) fun M26 => (q_b (fX7_asked M26 x1) fun r28 M29 => if r28 ≠ (0 : Int32) then (q_b (fX2_letsRefuse M29 r12 so0) fun r31 M32 => if r31 = (0 : Int32) then (fX0_look_b114 M32 x2 (0 : Int32)) else (fX0_look_b114 M32 x2 (1 : Int32))) else (q_b (fX2_weighing M29 r12 so0) fun r35 M36 => (fX0_look_b114 M36 x2 r35))))))) else none))
set_option maxRecDepth 100000 in
set_option maxHeartbeats 4000000 in
theorem bX0_look_45 {x : Cx} {y : Ly} (l : Launch) (K : VK x l rmX0_look y 7 cX0_look RX0 wqX0_look) (hy : y.2.2.2.2 = 0) {z : Int32 × QM} (hQ : VQ x y (some (.int z.1)) z.2 (some .int)) {M : QM} {x1 : Int32} {x2 : Int32} {x3 : Int32} {so0 : Nat} (hso0 : kls so0 = 6) (hF : fX0_look_b45 M x1 x2 x3 so0 = some z) : V x y 7 M 45 [(0, .ref (ly_o y 4)), (1, .int x1), (2, .int x2), (3, .int x3)] [.ref (ly_o y so0)] := by
  unfold fX0_look_b45 at hF
  refine v_astore (pc := 45) (lv' := [(4, .ref (ly_o y so0)), (0, .ref (ly_o y 4)), (1, .int x1), (2, .int x2), (3, .int x3)]) K 4 dX0_look_45 (by decide) rfl ?_
  refine v_aload_n (pc := 47) K dX0_look_47 1 rfl ?_
  refine v_iconst (pc := 48) (v := 1) K dX0_look_48 rfl ?_
  refine v_iload_n (pc := 49) K dX0_look_49 4 rfl ?_
  refine v_isub (pc := 50) K dX0_look_50 ?_
  obtain ⟨r12, M13, hc11, hF⟩ := q_bE hF
  obtain ⟨ho14, hF⟩ := q_kE hF
  refine v_callV (pc := 51) (ci := 0) (As := [.int ((1 : Int32) - x3)]) (rest := []) (st' := [.ref (ly_o y r12)]) (r := some (.ref (ly_o y r12))) (M1 := M13) K (kX0_codeOf l K.2.2.2.2.2.2.1 hy hc11) (jg_V jl_X0_90 jw_i_X0_codeOf jw_s_X0_codeOf jw_n_X0 jw_c_X0_codeOf) rfl rfl rfl jd_X0_codeOf ⟨Nat.le_of_ble_eq_true rfl, Nat.le_of_ble_eq_true rfl⟩ rfl rfl (Nat.le_of_ble_eq_true rfl) (by decide) (okc_0 hy (by decide)) rfl dX0_look_51 rfl ?_
  refine v_astore (pc := 54) (lv' := [(5, .ref (ly_o y r12)), (4, .ref (ly_o y so0)), (0, .ref (ly_o y 4)), (1, .int x1), (2, .int x2), (3, .int x3)]) K 5 dX0_look_54 (by decide) rfl ?_
  refine v_aload (pc := 56) K dX0_look_56 1 rfl ?_
  refine v_iload_n (pc := 58) K dX0_look_58 3 rfl ?_
  refine v_iconst (pc := 59) (v := 1) K dX0_look_59 rfl ?_
  refine v_iload_n (pc := 60) K dX0_look_60 5 rfl ?_
  refine v_isub (pc := 61) K dX0_look_61 ?_
  obtain ⟨r16, M17, hc15, hF⟩ := q_bE hF
  refine v_callS (pc := 62) (As := [.int x1, .int ((1 : Int32) - x3)]) (rest := [.ref (ly_o y so0)]) (st' := [.int r16, .ref (ly_o y so0)]) (r := some (.int r16)) (M1 := M17) K (kX7_owed l K.2.2.2.2.2.2.1 hy hc15) (jg_S jl_X0_87 jw_t_X7_owed jw_n_X7 jw_c_X7_owed) rfl rfl rfl jd_X7_owed ⟨Nat.le_of_ble_eq_true rfl, Nat.le_of_ble_eq_true rfl⟩ rfl rfl (Nat.le_of_ble_eq_true rfl) dX0_look_62 rfl ?_
  refine v_iload_n (pc := 65) K dX0_look_65 3 rfl ?_
  refine v_iload_n (pc := 66) K dX0_look_66 5 rfl ?_
  obtain ⟨r19, M20, hc18, hF⟩ := q_bE hF
  refine v_callS (pc := 67) (As := [.int x1, .int x3]) (rest := [.int r16, .ref (ly_o y so0)]) (st' := [.int r19, .int r16, .ref (ly_o y so0)]) (r := some (.int r19)) (M1 := M20) K (kX7_owed l K.2.2.2.2.2.2.1 hy hc18) (jg_S jl_X0_87 jw_t_X7_owed jw_n_X7 jw_c_X7_owed) rfl rfl rfl jd_X7_owed ⟨Nat.le_of_ble_eq_true rfl, Nat.le_of_ble_eq_true rfl⟩ rfl rfl (Nat.le_of_ble_eq_true rfl) dX0_look_67 rfl ?_
  refine v_aload_n (pc := 70) K dX0_look_70 2 rfl ?_
  refine gX0_hours (pc := 71) K hy (by decide) jn_X0 (List.mem_cons_of_mem _ jl_X0_52) dX0_look_71 ?_
  refine v_iload_n (pc := 74) K dX0_look_74 3 rfl ?_
  obtain ⟨r22, M23, hc21, hF⟩ := q_bE hF
  refine v_callS (pc := 75) (As := [.int x1]) (rest := [.int (q_i M20 4 4), .int r19, .int r16, .ref (ly_o y so0)]) (st' := [.int r22, .int (q_i M20 4 4), .int r19, .int r16, .ref (ly_o y so0)]) (r := some (.int r22)) (M1 := M23) K (kX7_left l K.2.2.2.2.2.2.1 hy hc21) (jg_S jl_X0_107 jw_t_X7_left jw_n_X7 jw_c_X7_left) rfl rfl rfl jd_X7_left ⟨Nat.le_of_ble_eq_true rfl, Nat.le_of_ble_eq_true rfl⟩ rfl rfl (Nat.le_of_ble_eq_true rfl) dX0_look_75 rfl ?_
  refine v_isub (pc := 78) K dX0_look_78 ?_
  obtain ⟨M26, hc24, hF⟩ := q_bvE hF
  refine v_callV (pc := 79) (ci := 6) (As := [.int r16, .int r19, .int ((q_i M20 4 4) - r22)]) (rest := []) (st' := []) (r := none) (M1 := M26) K (kX6_setHour l K.2.2.2.2.2.2.1 hy hso0 hc24) (jg_V jl_X0_59 jw_i_X6_setHour jw_s_X6_setHour jw_n_X6 jw_c_X6_setHour) rfl rfl rfl jd_X6_setHour ⟨Nat.le_of_ble_eq_true rfl, Nat.le_of_ble_eq_true rfl⟩ rfl rfl (Nat.le_of_ble_eq_true rfl) hso0 (okc_0 hy (by decide)) rfl dX0_look_79 rfl ?_
  refine v_iload_n (pc := 82) K dX0_look_82 3 rfl ?_
  obtain ⟨r28, M29, hc27, hF⟩ := q_bE hF
  refine v_callS (pc := 83) (As := [.int x1]) (rest := []) (st' := [.int r28]) (r := some (.int r28)) (M1 := M29) K (kX7_asked l K.2.2.2.2.2.2.1 hy hc27) (jg_S jl_X0_81 jw_t_X7_asked jw_n_X7 jw_c_X7_asked) rfl rfl rfl jd_X7_asked ⟨Nat.le_of_ble_eq_true rfl, Nat.le_of_ble_eq_true rfl⟩ rfl rfl (Nat.le_of_ble_eq_true rfl) dX0_look_83 rfl ?_
  refine v_if_ne (pc := 86) (tgt := 99) K dX0_look_86 (by decide) hF (fun c37 hF => ?_) (fun c37 hF => ?_)
  · refine v_aload (pc := 99) K dX0_look_99 0 rfl ?_
    refine v_aload (pc := 101) K dX0_look_101 1 rfl ?_
    obtain ⟨r31, M32, hc30, hF⟩ := q_bE hF
    refine v_callV (pc := 103) (ci := 2) (As := [.ref (ly_o y so0)]) (rest := []) (st' := [.int r31]) (r := some (.int r31)) (M1 := M32) K (kX2_letsRefuse l K.2.2.2.2.2.2.1 hy ho14 hso0 hc30) (jg_V jl_X0_149 jw_i_X2_letsRefuse jw_s_X2_letsRefuse jw_n_X2 jw_c_X2_letsRefuse) rfl rfl rfl jd_X2_letsRefuse ⟨Nat.le_of_ble_eq_true rfl, Nat.le_of_ble_eq_true rfl⟩ rfl rfl (Nat.le_of_ble_eq_true rfl) ho14 (okc_0 hy (by decide)) rfl dX0_look_103 rfl ?_
    refine v_if_eq (pc := 106) (tgt := 113) K dX0_look_106 (by decide) hF (fun c33 hF => ?_) (fun c33 hF => ?_)
    · refine v_iconst (pc := 113) (v := 0) K dX0_look_113 rfl ?_
      refine v_sub [2, 4] rfl ?_
      exact bX0_look_114 l K hy hQ hF
    · refine v_iconst (pc := 109) (v := 1) K dX0_look_109 rfl ?_
      refine v_goto (pc := 110) (tgt := 114) K dX0_look_110 (by decide) ?_
      refine v_sub [2, 4] rfl ?_
      exact bX0_look_114 l K hy hQ hF
  · refine v_aload (pc := 89) K dX0_look_89 0 rfl ?_
    refine v_aload (pc := 91) K dX0_look_91 1 rfl ?_
    obtain ⟨r35, M36, hc34, hF⟩ := q_bE hF
    refine v_callV (pc := 93) (ci := 2) (As := [.ref (ly_o y so0)]) (rest := []) (st' := [.int r35]) (r := some (.int r35)) (M1 := M36) K (kX2_weighing l K.2.2.2.2.2.2.1 hy ho14 hso0 hc34) (jg_V jl_X0_145 jw_i_X2_weighing jw_s_X2_weighing jw_n_X2 jw_c_X2_weighing) rfl rfl rfl jd_X2_weighing ⟨Nat.le_of_ble_eq_true rfl, Nat.le_of_ble_eq_true rfl⟩ rfl rfl (Nat.le_of_ble_eq_true rfl) ho14 (okc_0 hy (by decide)) rfl dX0_look_93 rfl ?_
    refine v_goto (pc := 96) (tgt := 114) K dX0_look_96 (by decide) ?_
    refine v_sub [2, 4] rfl ?_
    exact bX0_look_114 l K hy hQ hF
def fX0_look (M : QM) (x1 : Int32) : Option (Int32 × QM) := (q_b (fX7_spot M x1) fun r2 M3 => (if q_in r2 4096 then if (q_a M3 4 7 r2.toNatClampNeg) ≠ (q_i M3 4 8) then (q_b (fX7_turn M3 x1) fun r6 M7 => if r6 ≠ (0 : Int32) then (fX0_look_b45 M7 x1 r2 r6 9) else (fX0_look_b45 M7 x1 r2 r6 8)) else (if q_in r2 4096 then some (q_a M3 4 6 r2.toNatClampNeg, M3) else none) else none))
set_option maxRecDepth 100000 in
set_option maxHeartbeats 4000000 in
theorem bX0_look_0 {x : Cx} {y : Ly} (l : Launch) (K : VK x l rmX0_look y 7 cX0_look RX0 wqX0_look) (hy : y.2.2.2.2 = 0) {z : Int32 × QM} (hQ : VQ x y (some (.int z.1)) z.2 (some .int)) {M : QM} {x1 : Int32} (hF : fX0_look M x1 = some z) : V x y 7 M 0 [(0, .ref (ly_o y 4)), (1, .int x1)] [] := by
  unfold fX0_look at hF
  refine v_iload_n (pc := 0) K dX0_look_0 1 rfl ?_
  obtain ⟨r2, M3, hc1, hF⟩ := q_bE hF
  refine v_callS (pc := 1) (As := [.int x1]) (rest := []) (st' := [.int r2]) (r := some (.int r2)) (M1 := M3) K (kX7_spot l K.2.2.2.2.2.2.1 hy hc1) (jg_S jl_X0_142 jw_t_X7_spot jw_n_X7 jw_c_X7_spot) rfl rfl rfl jd_X7_spot ⟨Nat.le_of_ble_eq_true rfl, Nat.le_of_ble_eq_true rfl⟩ rfl rfl (Nat.le_of_ble_eq_true rfl) dX0_look_1 rfl ?_
  refine v_istore_n (pc := 4) (lv' := [(2, .int r2), (0, .ref (ly_o y 4)), (1, .int x1)]) K dX0_look_4 2 rfl (by decide) rfl ?_
  refine v_aload_n (pc := 5) K dX0_look_5 1 rfl ?_
  refine gX0_marks (pc := 6) K hy (by decide) jn_X0 (List.mem_cons_of_mem _ jl_X0_35) dX0_look_6 ?_
  refine v_iload_n (pc := 9) K dX0_look_9 0 rfl ?_
  refine iX0_marks (pc := 10) K hy (by decide) hF dX0_look_10 (fun hi4 hF => ?_)
  refine v_aload_n (pc := 11) K dX0_look_11 1 rfl ?_
  refine gX0_mark (pc := 12) K hy (by decide) jn_X0 (List.mem_cons_of_mem _ jl_X0_56) dX0_look_12 ?_
  refine v_icmp_ne (pc := 15) (tgt := 25) K dX0_look_15 (by decide) hF (fun c10 hF => ?_) (fun c10 hF => ?_)
  · refine v_iload_n (pc := 25) K dX0_look_25 2 rfl ?_
    obtain ⟨r6, M7, hc5, hF⟩ := q_bE hF
    refine v_callS (pc := 26) (As := [.int x1]) (rest := []) (st' := [.int r6]) (r := some (.int r6)) (M1 := M7) K (kX7_turn l K.2.2.2.2.2.2.1 hy hc5) (jg_S jl_X0_84 jw_t_X7_turn jw_n_X7 jw_c_X7_turn) rfl rfl rfl jd_X7_turn ⟨Nat.le_of_ble_eq_true rfl, Nat.le_of_ble_eq_true rfl⟩ rfl rfl (Nat.le_of_ble_eq_true rfl) dX0_look_26 rfl ?_
    refine v_istore_n (pc := 29) (lv' := [(3, .int r6), (2, .int r2), (0, .ref (ly_o y 4)), (1, .int x1)]) K dX0_look_29 3 rfl (by decide) rfl ?_
    refine v_iload_n (pc := 30) K dX0_look_30 0 rfl ?_
    refine v_if_ne (pc := 31) (tgt := 41) K dX0_look_31 (by decide) hF (fun c8 hF => ?_) (fun c8 hF => ?_)
    · refine v_aload_n (pc := 41) K dX0_look_41 2 rfl ?_
      refine gX0_ofSecond (pc := 42) K hy (by decide) jn_X0 (List.mem_cons_of_mem _ jl_X0_18) dX0_look_42 ?_
      refine v_sub [2, 3, 1, 0] rfl ?_
      exact bX0_look_45 l K hy hQ (by decide) hF
    · refine v_aload_n (pc := 34) K dX0_look_34 2 rfl ?_
      refine gX0_ofFirst (pc := 35) K hy (by decide) jn_X0 (List.mem_cons_of_mem _ jl_X0_12) dX0_look_35 ?_
      refine v_goto (pc := 38) (tgt := 45) K dX0_look_38 (by decide) ?_
      refine v_sub [2, 3, 1, 0] rfl ?_
      exact bX0_look_45 l K hy hQ (by decide) hF
  · refine v_aload_n (pc := 18) K dX0_look_18 1 rfl ?_
    refine gX0_seen (pc := 19) K hy (by decide) jn_X0 (List.mem_cons_of_mem _ jl_X0_31) dX0_look_19 ?_
    refine v_iload_n (pc := 22) K dX0_look_22 0 rfl ?_
    refine iX0_seen (pc := 23) K hy (by decide) hF dX0_look_23 (fun hi9 hF => ?_)
    have hz := (Option.some.inj hF).symm
    subst hz
    exact v_iret (pc := 24) K hQ dX0_look_24
set_option maxRecDepth 100000 in
set_option maxHeartbeats 4000000 in
theorem kX0_look (l : Launch) {y : Ly} (hJ : ly_J y) (hy : y.2.2.2.2 = 0) {M M1 : QM} {r : Int32} {x1 : Int32} (hF : fX0_look M x1 = some (r, M1)) : Met l yX0_look wqX0_look rmX0_look (q_P y [.ref (ly_o y 4), .int x1] M) (q_E y (some (.int r)) M1) 0 0 (ly_A y) :=
  q_met (by decide) rfl hJ rfl rfl rfl (fun x K hQ => bX0_look_0 l K hy (z := (r, M1)) hQ  hF)
-- ===== X0_weighed (ILTwoCards$Code;)I
theorem jd_X0_weighed : yX0_weighed.cls = RX0 ∧ yX0_weighed.cls ≠ "java/lang/invoke/MethodHandle" ∧ yX0_weighed.cls ≠ "java/lang/invoke/VarHandle" ∧ (parseMethodDescriptor yX0_weighed.desc).map (fun d => d.parameters.length) = some 2 := by decide +kernel
abbrev wqX0_weighed : List Cond := .code yX0_weighed cX0_weighed 3 (some .int) :: wsL_law
abbrev rmX0_weighed : Room := { frames := 1, cells := 0, slots := 0, locals := 21 }
def fX0_weighed (M : QM) (x1 : Int32) (o2 : Nat) : Option (Int32 × QM) := (q_t (((q_i M 4 5) <<< ((1 : Int32) &&& (31 : Int32))) >>> (x1 &&& (31 : Int32))) fun v1 => if (v1 &&& (1 : Int32)) ≠ (1 : Int32) then (q_b (fX2_numberOf M o2 (x1 - (1 : Int32))) fun r3 M4 => some (r3, M4)) else some ((15 : Int32), M))
set_option maxRecDepth 100000 in
set_option maxHeartbeats 4000000 in
theorem bX0_weighed_0 {x : Cx} {y : Ly} (l : Launch) (K : VK x l rmX0_weighed y 3 cX0_weighed RX0 wqX0_weighed) (hy : y.2.2.2.2 = 0) {z : Int32 × QM} (hQ : VQ x y (some (.int z.1)) z.2 (some .int)) {M : QM} {x1 : Int32} {o2 : Nat} (ho2 : kls o2 = 2) (hF : fX0_weighed M x1 o2 = some z) : V x y 3 M 0 [(0, .ref (ly_o y 4)), (1, .int x1), (2, .ref (ly_o y o2))] [] := by
  unfold fX0_weighed at hF
  refine v_aload_n (pc := 0) K dX0_weighed_0 0 rfl ?_
  refine gX0_raised (pc := 1) K hy (by decide) jn_X0 (List.mem_cons_of_mem _ jl_X0_53) dX0_weighed_1 ?_
  refine v_iconst (pc := 4) (v := 1) K dX0_weighed_4 rfl ?_
  refine v_ishl (pc := 5) K dX0_weighed_5 ?_
  refine v_iload_n (pc := 6) K dX0_weighed_6 1 rfl ?_
  refine v_ishr (pc := 7) K dX0_weighed_7 ?_
  refine v_nmI hF (fun v1 hF => ?_)
  refine v_iconst (pc := 8) (v := 1) K dX0_weighed_8 rfl ?_
  refine v_iand (pc := 9) K dX0_weighed_9 ?_
  refine v_iconst (pc := 10) (v := 1) K dX0_weighed_10 rfl ?_
  refine v_icmp_ne (pc := 11) (tgt := 19) K dX0_weighed_11 (by decide) hF (fun c5 hF => ?_) (fun c5 hF => ?_)
  · refine v_aload_n (pc := 19) K dX0_weighed_19 2 rfl ?_
    refine v_iload_n (pc := 20) K dX0_weighed_20 1 rfl ?_
    refine v_iconst (pc := 21) (v := 1) K dX0_weighed_21 rfl ?_
    refine v_isub (pc := 22) K dX0_weighed_22 ?_
    obtain ⟨r3, M4, hc2, hF⟩ := q_bE hF
    refine v_callV (pc := 23) (ci := 2) (As := [.int (x1 - (1 : Int32))]) (rest := []) (st' := [.int r3]) (r := some (.int r3)) (M1 := M4) K (kX2_numberOf l K.2.2.2.2.2.2.1 hy ho2 hc2) (jg_V jl_X0_139 jw_i_X2_numberOf jw_s_X2_numberOf jw_n_X2 jw_c_X2_numberOf) rfl rfl rfl jd_X2_numberOf ⟨Nat.le_of_ble_eq_true rfl, Nat.le_of_ble_eq_true rfl⟩ rfl rfl (Nat.le_of_ble_eq_true rfl) ho2 (okc_0 hy (by decide)) rfl dX0_weighed_23 rfl ?_
    have hz := (Option.some.inj hF).symm
    subst hz
    exact v_iret (pc := 26) K hQ dX0_weighed_26
  · refine v_bipush (pc := 14) (v := 15) K dX0_weighed_14 rfl ?_
    refine v_goto (pc := 16) (tgt := 26) K dX0_weighed_16 (by decide) ?_
    have hz := (Option.some.inj hF).symm
    subst hz
    exact v_iret (pc := 26) K hQ dX0_weighed_26
set_option maxRecDepth 100000 in
set_option maxHeartbeats 4000000 in
theorem kX0_weighed (l : Launch) {y : Ly} (hJ : ly_J y) (hy : y.2.2.2.2 = 0) {M M1 : QM} {r : Int32} {x1 : Int32} {o2 : Nat} (ho2 : kls o2 = 2) (hF : fX0_weighed M x1 o2 = some (r, M1)) : Met l yX0_weighed wqX0_weighed rmX0_weighed (q_P y [.ref (ly_o y 4), .int x1, .ref (ly_o y o2)] M) (q_E y (some (.int r)) M1) 0 0 (ly_A y) :=
  q_met (by decide) rfl hJ rfl rfl rfl (fun x K hQ => bX0_weighed_0 l K hy (z := (r, M1)) hQ ho2 hF)
-- ===== X0_changed (III)I
theorem jd_X0_changed : yX0_changed.cls ≠ "java/lang/invoke/MethodHandle" ∧ yX0_changed.cls ≠ "java/lang/invoke/VarHandle" ∧ (parseMethodDescriptor yX0_changed.desc).map (fun d => d.parameters.length) = some 3 := by decide +kernel
abbrev wqX0_changed : List Cond := .code yX0_changed cX0_changed 3 (some .int) :: wsL_law
abbrev rmX0_changed : Room := { frames := 1, cells := 0, slots := 0, locals := 21 }
def fX0_changed (M : QM) (x0 : Int32) (x1 : Int32) (x2 : Int32) : Option (Int32 × QM) := if (4 : Int32) ≤ x1 then some (if (0 : Int32) < (x0 - x2) then (x0 - x2) else (0 : Int32), M) else some (if (x0 + x2) < (15 : Int32) then (x0 + x2) else (15 : Int32), M)
set_option maxRecDepth 100000 in
set_option maxHeartbeats 4000000 in
theorem bX0_changed_0 {x : Cx} {y : Ly} (l : Launch) (K : VK x l rmX0_changed y 3 cX0_changed RX0 wqX0_changed) (hy : y.2.2.2.2 = 0) {z : Int32 × QM} (hQ : VQ x y (some (.int z.1)) z.2 (some .int)) {M : QM} {x0 : Int32} {x1 : Int32} {x2 : Int32} (hF : fX0_changed M x0 x1 x2 = some z) : V x y 3 M 0 [(0, .int x0), (1, .int x1), (2, .int x2)] [] := by
  unfold fX0_changed at hF
  refine v_iload_n (pc := 0) K dX0_changed_0 1 rfl ?_
  refine v_iconst (pc := 1) (v := 4) K dX0_changed_1 rfl ?_
  refine v_icmp_ge (pc := 2) (tgt := 16) K dX0_changed_2 (by decide) hF (fun c1 hF => ?_) (fun c1 hF => ?_)
  · refine v_iconst (pc := 16) (v := 0) K dX0_changed_16 rfl ?_
    refine v_iload_n (pc := 17) K dX0_changed_17 0 rfl ?_
    refine v_iload_n (pc := 18) K dX0_changed_18 2 rfl ?_
    refine v_isub (pc := 19) K dX0_changed_19 ?_
    refine v_mmax (pc := 20) K dX0_changed_20 (List.mem_cons_of_mem _ jl_X0_133) (List.mem_cons_of_mem _ jw_t_mmax) (List.mem_cons_of_mem _ jw_n_java_lang_Math) (List.mem_cons_of_mem _ jw_c_mmax) (Nat.le_of_ble_eq_true rfl) (Nat.le_of_ble_eq_true rfl) ?_
    have hz := (Option.some.inj hF).symm
    subst hz
    exact v_iret (pc := 23) K hQ dX0_changed_23
  · refine v_bipush (pc := 5) (v := 15) K dX0_changed_5 rfl ?_
    refine v_iload_n (pc := 7) K dX0_changed_7 0 rfl ?_
    refine v_iload_n (pc := 8) K dX0_changed_8 2 rfl ?_
    refine v_iadd (pc := 9) K dX0_changed_9 ?_
    refine v_mmin (pc := 10) K dX0_changed_10 (List.mem_cons_of_mem _ jl_X0_46) (List.mem_cons_of_mem _ jw_t_mmin) (List.mem_cons_of_mem _ jw_n_java_lang_Math) (List.mem_cons_of_mem _ jw_c_mmin) (Nat.le_of_ble_eq_true rfl) (Nat.le_of_ble_eq_true rfl) ?_
    refine v_goto (pc := 13) (tgt := 23) K dX0_changed_13 (by decide) ?_
    have hz := (Option.some.inj hF).symm
    subst hz
    exact v_iret (pc := 23) K hQ dX0_changed_23
set_option maxRecDepth 100000 in
set_option maxHeartbeats 4000000 in
theorem kX0_changed (l : Launch) {y : Ly} (hJ : ly_J y) (hy : y.2.2.2.2 = 0) {M M1 : QM} {r : Int32} {x0 : Int32} {x1 : Int32} {x2 : Int32} (hF : fX0_changed M x0 x1 x2 = some (r, M1)) : Met l yX0_changed wqX0_changed rmX0_changed (q_P y [.int x0, .int x1, .int x2] M) (q_E y (some (.int r)) M1) 0 0 (ly_A y) :=
  q_met (by decide) rfl hJ rfl rfl rfl (fun x K hQ => bX0_changed_0 l K hy (z := (r, M1)) hQ  hF)
-- ===== X0_lessOf (II)I
theorem jd_X0_lessOf : yX0_lessOf.cls = RX0 ∧ yX0_lessOf.cls ≠ "java/lang/invoke/MethodHandle" ∧ yX0_lessOf.cls ≠ "java/lang/invoke/VarHandle" ∧ (parseMethodDescriptor yX0_lessOf.desc).map (fun d => d.parameters.length) = some 2 := by decide +kernel
abbrev wqX0_lessOf : List Cond := .code yX0_lessOf cX0_lessOf 3 (some .int) :: wsL_law
abbrev rmX0_lessOf : Room := { frames := 0, cells := 0, slots := 0, locals := 0 }
def fX0_lessOf_b32 (M : QM) (s0 : Int32) (s1 : Int32) : Option (Int32 × QM) := some (s1 + s0, M)
set_option maxRecDepth 100000 in
set_option maxHeartbeats 4000000 in
theorem bX0_lessOf_32 {x : Cx} {y : Ly} (l : Launch) (K : VK x l rmX0_lessOf y 3 cX0_lessOf RX0 wqX0_lessOf) (hy : y.2.2.2.2 = 0) {z : Int32 × QM} (hQ : VQ x y (some (.int z.1)) z.2 (some .int)) {M : QM} {s0 : Int32} {s1 : Int32} (hF : fX0_lessOf_b32 M s0 s1 = some z) : V x y 3 M 32 [] [.int s0, .int s1] := by
  unfold fX0_lessOf_b32 at hF
  refine v_iadd (pc := 32) K dX0_lessOf_32 ?_
  have hz := (Option.some.inj hF).symm
  subst hz
  exact v_iret (pc := 33) K hQ dX0_lessOf_33
def fX0_lessOf_b16 (M : QM) (x2 : Int32) (s0 : Int32) : Option (Int32 × QM) := if x2 < (q_i M (q_r M 4 3) 11) then (fX0_lessOf_b32 M (0 : Int32) s0) else (fX0_lessOf_b32 M (2 : Int32) s0)
set_option maxRecDepth 100000 in
set_option maxHeartbeats 4000000 in
theorem bX0_lessOf_16 {x : Cx} {y : Ly} (l : Launch) (K : VK x l rmX0_lessOf y 3 cX0_lessOf RX0 wqX0_lessOf) (hy : y.2.2.2.2 = 0) {z : Int32 × QM} (hQ : VQ x y (some (.int z.1)) z.2 (some .int)) {M : QM} {x2 : Int32} {s0 : Int32} (hF : fX0_lessOf_b16 M x2 s0 = some z) : V x y 3 M 16 [(0, .ref (ly_o y 4)), (2, .int x2)] [.int s0] := by
  unfold fX0_lessOf_b16 at hF
  refine v_iload_n (pc := 16) K dX0_lessOf_16 1 rfl ?_
  refine v_aload_n (pc := 17) K dX0_lessOf_17 0 rfl ?_
  refine gX0_secondCode (pc := 18) K hy (by decide) jn_X0 (List.mem_cons_of_mem _ jl_X0_28) dX0_lessOf_18 ?_
  refine v_known (o := 4) (c := 0) (j := 3) (by decide) (okc_0 hy (by decide)) (by decide) rfl (fun hr3 => ?_)
  refine gX2_must (pc := 21) K hy hr3 jn_X2 (List.mem_cons_of_mem _ jl_X0_136) dX0_lessOf_21 ?_
  refine v_icmp_lt (pc := 24) (tgt := 31) K dX0_lessOf_24 (by decide) hF (fun c4 hF => ?_) (fun c4 hF => ?_)
  · refine v_iconst (pc := 31) (v := 0) K dX0_lessOf_31 rfl ?_
    refine v_sub [] rfl ?_
    exact bX0_lessOf_32 l K hy hQ hF
  · refine v_iconst (pc := 27) (v := 2) K dX0_lessOf_27 rfl ?_
    refine v_goto (pc := 28) (tgt := 32) K dX0_lessOf_28 (by decide) ?_
    refine v_sub [] rfl ?_
    exact bX0_lessOf_32 l K hy hQ hF
def fX0_lessOf (M : QM) (x1 : Int32) (x2 : Int32) : Option (Int32 × QM) := if x1 < (q_i M (q_r M 4 2) 11) then (fX0_lessOf_b16 M x2 (0 : Int32)) else (fX0_lessOf_b16 M x2 (1 : Int32))
set_option maxRecDepth 100000 in
set_option maxHeartbeats 4000000 in
theorem bX0_lessOf_0 {x : Cx} {y : Ly} (l : Launch) (K : VK x l rmX0_lessOf y 3 cX0_lessOf RX0 wqX0_lessOf) (hy : y.2.2.2.2 = 0) {z : Int32 × QM} (hQ : VQ x y (some (.int z.1)) z.2 (some .int)) {M : QM} {x1 : Int32} {x2 : Int32} (hF : fX0_lessOf M x1 x2 = some z) : V x y 3 M 0 [(0, .ref (ly_o y 4)), (1, .int x1), (2, .int x2)] [] := by
  unfold fX0_lessOf at hF
  refine v_iload_n (pc := 0) K dX0_lessOf_0 1 rfl ?_
  refine v_aload_n (pc := 1) K dX0_lessOf_1 0 rfl ?_
  refine gX0_firstCode (pc := 2) K hy (by decide) jn_X0 (List.mem_cons_of_mem _ jl_X0_24) dX0_lessOf_2 ?_
  refine v_known (o := 4) (c := 0) (j := 2) (by decide) (okc_0 hy (by decide)) (by decide) rfl (fun hr1 => ?_)
  refine gX2_must (pc := 5) K hy hr1 jn_X2 (List.mem_cons_of_mem _ jl_X0_136) dX0_lessOf_5 ?_
  refine v_icmp_lt (pc := 8) (tgt := 15) K dX0_lessOf_8 (by decide) hF (fun c2 hF => ?_) (fun c2 hF => ?_)
  · refine v_iconst (pc := 15) (v := 0) K dX0_lessOf_15 rfl ?_
    refine v_sub [0, 2] rfl ?_
    exact bX0_lessOf_16 l K hy hQ hF
  · refine v_iconst (pc := 11) (v := 1) K dX0_lessOf_11 rfl ?_
    refine v_goto (pc := 12) (tgt := 16) K dX0_lessOf_12 (by decide) ?_
    refine v_sub [0, 2] rfl ?_
    exact bX0_lessOf_16 l K hy hQ hF
set_option maxRecDepth 100000 in
set_option maxHeartbeats 4000000 in
theorem kX0_lessOf (l : Launch) {y : Ly} (hJ : ly_J y) (hy : y.2.2.2.2 = 0) {M M1 : QM} {r : Int32} {x1 : Int32} {x2 : Int32} (hF : fX0_lessOf M x1 x2 = some (r, M1)) : Met l yX0_lessOf wqX0_lessOf rmX0_lessOf (q_P y [.ref (ly_o y 4), .int x1, .int x2] M) (q_E y (some (.int r)) M1) 0 0 (ly_A y) :=
  q_met (by decide) rfl hJ rfl rfl rfl (fun x K hQ => bX0_lessOf_0 l K hy (z := (r, M1)) hQ  hF)
-- ===== X0_after (IIZ)I
theorem jd_X0_after : yX0_after.cls = RX0 ∧ yX0_after.cls ≠ "java/lang/invoke/MethodHandle" ∧ yX0_after.cls ≠ "java/lang/invoke/VarHandle" ∧ (parseMethodDescriptor yX0_after.desc).map (fun d => d.parameters.length) = some 3 := by decide +kernel
abbrev wqX0_after : List Cond := .code yX0_after cX0_after 13 (some .int) :: wsL_law
abbrev rmX0_after : Room := { frames := 4, cells := 0, slots := 0, locals := 97 }
def fX0_after_b47 (M : QM) (s0 : Int32) (s1 : Int32) (s2 : Int32) : Option (Int32 × QM) := (q_b (fX7_ended M s2 s1 s0) fun r38 M39 => some (r38, M39))
set_option maxRecDepth 100000 in
set_option maxHeartbeats 4000000 in
theorem bX0_after_47 {x : Cx} {y : Ly} (l : Launch) (K : VK x l rmX0_after y 13 cX0_after RX0 wqX0_after) (hy : y.2.2.2.2 = 0) {z : Int32 × QM} (hQ : VQ x y (some (.int z.1)) z.2 (some .int)) {M : QM} {s0 : Int32} {s1 : Int32} {s2 : Int32} (hF : fX0_after_b47 M s0 s1 s2 = some z) : V x y 13 M 47 [] [.int s0, .int s1, .int s2] := by
  unfold fX0_after_b47 at hF
  obtain ⟨r38, M39, hc37, hF⟩ := q_bE hF
  refine v_callS (pc := 47) (As := [.int s2, .int s1, .int s0]) (rest := []) (st' := [.int r38]) (r := some (.int r38)) (M1 := M39) K (kX7_ended l K.2.2.2.2.2.2.1 hy hc37) (jg_S jl_X0_73 jw_t_X7_ended jw_n_X7 jw_c_X7_ended) rfl rfl rfl jd_X7_ended ⟨Nat.le_of_ble_eq_true rfl, Nat.le_of_ble_eq_true rfl⟩ rfl rfl (Nat.le_of_ble_eq_true rfl) dX0_after_47 rfl ?_
  have hz := (Option.some.inj hF).symm
  subst hz
  exact v_iret (pc := 50) K hQ dX0_after_50
def fX0_after_b194 (M : QM) (x5 : Int32) (x8 : Int32) (x9 : Int32) (x10 : Int32) (x11 : Int32) : Option (Int32 × QM) := (q_b (fX7_of M x8 x9 ((x11 - (1 : Int32)) &&& (15 : Int32)) x5 x10) fun r56 M57 => if x11 ≤ (1 : Int32) then (q_b (fX0_lessOf M57 x8 x9) fun r59 M60 => (q_b (fX7_ended M60 r56 (4 : Int32) r59) fun r62 M63 => some (r62, M63))) else some (r56, M57))
set_option maxRecDepth 100000 in
set_option maxHeartbeats 4000000 in
theorem bX0_after_194 {x : Cx} {y : Ly} (l : Launch) (K : VK x l rmX0_after y 13 cX0_after RX0 wqX0_after) (hy : y.2.2.2.2 = 0) {z : Int32 × QM} (hQ : VQ x y (some (.int z.1)) z.2 (some .int)) {M : QM} {x5 : Int32} {x8 : Int32} {x9 : Int32} {x10 : Int32} {x11 : Int32} (hF : fX0_after_b194 M x5 x8 x9 x10 x11 = some z) : V x y 13 M 194 [(0, .ref (ly_o y 4)), (5, .int x5), (8, .int x8), (9, .int x9), (10, .int x10), (11, .int x11)] [] := by
  unfold fX0_after_b194 at hF
  refine v_iload (pc := 194) K dX0_after_194 2 rfl ?_
  refine v_iload (pc := 196) K dX0_after_196 3 rfl ?_
  refine v_iload (pc := 198) K dX0_after_198 5 rfl ?_
  refine v_iconst (pc := 200) (v := 1) K dX0_after_200 rfl ?_
  refine v_isub (pc := 201) K dX0_after_201 ?_
  refine v_bipush (pc := 202) (v := 15) K dX0_after_202 rfl ?_
  refine v_iand (pc := 204) K dX0_after_204 ?_
  refine v_iload (pc := 205) K dX0_after_205 1 rfl ?_
  refine v_iload (pc := 207) K dX0_after_207 4 rfl ?_
  obtain ⟨r56, M57, hc55, hF⟩ := q_bE hF
  refine v_callS (pc := 209) (As := [.int x8, .int x9, .int ((x11 - (1 : Int32)) &&& (15 : Int32)), .int x5, .int x10]) (rest := []) (st' := [.int r56]) (r := some (.int r56)) (M1 := M57) K (kX7_of l K.2.2.2.2.2.2.1 hy hc55) (jg_S jl_X0_67 jw_t_X7_of jw_n_X7 jw_c_X7_of) rfl rfl rfl jd_X7_of ⟨Nat.le_of_ble_eq_true rfl, Nat.le_of_ble_eq_true rfl⟩ rfl rfl (Nat.le_of_ble_eq_true rfl) dX0_after_209 rfl ?_
  refine v_istore (pc := 212) (lv' := [(12, .int r56), (0, .ref (ly_o y 4)), (5, .int x5), (8, .int x8), (9, .int x9), (10, .int x10), (11, .int x11)]) K 12 dX0_after_212 (by decide) rfl ?_
  refine v_iload (pc := 214) K dX0_after_214 6 rfl ?_
  refine v_iconst (pc := 216) (v := 1) K dX0_after_216 rfl ?_
  refine v_icmp_le (pc := 217) (tgt := 225) K dX0_after_217 (by decide) hF (fun c64 hF => ?_) (fun c64 hF => ?_)
  · refine v_iload (pc := 225) K dX0_after_225 0 rfl ?_
    refine v_iconst (pc := 227) (v := 4) K dX0_after_227 rfl ?_
    refine v_aload_n (pc := 228) K dX0_after_228 1 rfl ?_
    refine v_iload (pc := 229) K dX0_after_229 3 rfl ?_
    refine v_iload (pc := 231) K dX0_after_231 4 rfl ?_
    obtain ⟨r59, M60, hc58, hF⟩ := q_bE hF
    refine v_callV (pc := 233) (ci := 0) (As := [.int x8, .int x9]) (rest := [.int (4 : Int32), .int r56]) (st' := [.int r59, .int (4 : Int32), .int r56]) (r := some (.int r59)) (M1 := M60) K (kX0_lessOf l K.2.2.2.2.2.2.1 hy hc58) (jg_V jl_X0_110 jw_i_X0_lessOf jw_s_X0_lessOf jw_n_X0 jw_c_X0_lessOf) rfl rfl rfl jd_X0_lessOf ⟨Nat.le_of_ble_eq_true rfl, Nat.le_of_ble_eq_true rfl⟩ rfl rfl (Nat.le_of_ble_eq_true rfl) (by decide) (okc_0 hy (by decide)) rfl dX0_after_233 rfl ?_
    obtain ⟨r62, M63, hc61, hF⟩ := q_bE hF
    refine v_callS (pc := 236) (As := [.int r56, .int (4 : Int32), .int r59]) (rest := []) (st' := [.int r62]) (r := some (.int r62)) (M1 := M63) K (kX7_ended l K.2.2.2.2.2.2.1 hy hc61) (jg_S jl_X0_73 jw_t_X7_ended jw_n_X7 jw_c_X7_ended) rfl rfl rfl jd_X7_ended ⟨Nat.le_of_ble_eq_true rfl, Nat.le_of_ble_eq_true rfl⟩ rfl rfl (Nat.le_of_ble_eq_true rfl) dX0_after_236 rfl ?_
    have hz := (Option.some.inj hF).symm
    subst hz
    exact v_iret (pc := 239) K hQ dX0_after_239
  · refine v_iload (pc := 220) K dX0_after_220 0 rfl ?_
    refine v_goto (pc := 222) (tgt := 239) K dX0_after_222 (by decide) ?_
    have hz := (Option.some.inj hF).symm
    subst hz
    exact v_iret (pc := 239) K hQ dX0_after_239
def fX0_after_b155 (M : QM) (x1 : Int32) (x5 : Int32) (x6 : Int32) (x7 : Int32) (x8 : Int32) (x9 : Int32) (s0 : Int32) : Option (Int32 × QM) := (q_b (fX7_left M x1) fun r44 M45 => if x6 ≠ (0 : Int32) then (fX0_after_b194 M45 x5 x8 x9 s0 r44) else if x7 ≠ (0 : Int32) then (fX0_after_b194 M45 x5 x8 x9 s0 r44) else if s0 ≠ (0 : Int32) then (fX0_after_b194 M45 x5 x8 x9 s0 r44) else (q_b (fX7_of M45 (0 : Int32) (0 : Int32) r44 x5 (0 : Int32)) fun r47 M48 => (q_b (fX7_ended M48 r47 (1 : Int32) (0 : Int32)) fun r50 M51 => some (r50, M51))))
set_option maxRecDepth 100000 in
set_option maxHeartbeats 4000000 in
theorem bX0_after_155 {x : Cx} {y : Ly} (l : Launch) (K : VK x l rmX0_after y 13 cX0_after RX0 wqX0_after) (hy : y.2.2.2.2 = 0) {z : Int32 × QM} (hQ : VQ x y (some (.int z.1)) z.2 (some .int)) {M : QM} {x1 : Int32} {x5 : Int32} {x6 : Int32} {x7 : Int32} {x8 : Int32} {x9 : Int32} {s0 : Int32} (hF : fX0_after_b155 M x1 x5 x6 x7 x8 x9 s0 = some z) : V x y 13 M 155 [(0, .ref (ly_o y 4)), (1, .int x1), (5, .int x5), (6, .int x6), (7, .int x7), (8, .int x8), (9, .int x9)] [.int s0] := by
  unfold fX0_after_b155 at hF
  refine v_istore (pc := 155) (lv' := [(10, .int s0), (0, .ref (ly_o y 4)), (1, .int x1), (5, .int x5), (6, .int x6), (7, .int x7), (8, .int x8), (9, .int x9)]) K 10 dX0_after_155 (by decide) rfl ?_
  refine v_iload_n (pc := 157) K dX0_after_157 2 rfl ?_
  obtain ⟨r44, M45, hc43, hF⟩ := q_bE hF
  refine v_callS (pc := 158) (As := [.int x1]) (rest := []) (st' := [.int r44]) (r := some (.int r44)) (M1 := M45) K (kX7_left l K.2.2.2.2.2.2.1 hy hc43) (jg_S jl_X0_107 jw_t_X7_left jw_n_X7 jw_c_X7_left) rfl rfl rfl jd_X7_left ⟨Nat.le_of_ble_eq_true rfl, Nat.le_of_ble_eq_true rfl⟩ rfl rfl (Nat.le_of_ble_eq_true rfl) dX0_after_158 rfl ?_
  refine v_istore (pc := 161) (lv' := [(11, .int r44), (10, .int s0), (0, .ref (ly_o y 4)), (1, .int x1), (5, .int x5), (6, .int x6), (7, .int x7), (8, .int x8), (9, .int x9)]) K 11 dX0_after_161 (by decide) rfl ?_
  refine v_iload (pc := 163) K dX0_after_163 5 rfl ?_
  refine v_if_ne (pc := 165) (tgt := 194) K dX0_after_165 (by decide) hF (fun c54 hF => ?_) (fun c54 hF => ?_)
  · refine v_sub [2, 4, 7, 8, 1, 0] rfl ?_
    exact bX0_after_194 l K hy hQ hF
  · refine v_iload (pc := 168) K dX0_after_168 6 rfl ?_
    refine v_if_ne (pc := 170) (tgt := 194) K dX0_after_170 (by decide) hF (fun c53 hF => ?_) (fun c53 hF => ?_)
    · refine v_sub [2, 4, 7, 8, 1, 0] rfl ?_
      exact bX0_after_194 l K hy hQ hF
    · refine v_iload (pc := 173) K dX0_after_173 1 rfl ?_
      refine v_if_ne (pc := 175) (tgt := 194) K dX0_after_175 (by decide) hF (fun c52 hF => ?_) (fun c52 hF => ?_)
      · refine v_sub [2, 4, 7, 8, 1, 0] rfl ?_
        exact bX0_after_194 l K hy hQ hF
      · refine v_iconst (pc := 178) (v := 0) K dX0_after_178 rfl ?_
        refine v_iconst (pc := 179) (v := 0) K dX0_after_179 rfl ?_
        refine v_iload (pc := 180) K dX0_after_180 0 rfl ?_
        refine v_iload (pc := 182) K dX0_after_182 4 rfl ?_
        refine v_iconst (pc := 184) (v := 0) K dX0_after_184 rfl ?_
        obtain ⟨r47, M48, hc46, hF⟩ := q_bE hF
        refine v_callS (pc := 185) (As := [.int (0 : Int32), .int (0 : Int32), .int r44, .int x5, .int (0 : Int32)]) (rest := []) (st' := [.int r47]) (r := some (.int r47)) (M1 := M48) K (kX7_of l K.2.2.2.2.2.2.1 hy hc46) (jg_S jl_X0_67 jw_t_X7_of jw_n_X7 jw_c_X7_of) rfl rfl rfl jd_X7_of ⟨Nat.le_of_ble_eq_true rfl, Nat.le_of_ble_eq_true rfl⟩ rfl rfl (Nat.le_of_ble_eq_true rfl) dX0_after_185 rfl ?_
        refine v_iconst (pc := 188) (v := 1) K dX0_after_188 rfl ?_
        refine v_iconst (pc := 189) (v := 0) K dX0_after_189 rfl ?_
        obtain ⟨r50, M51, hc49, hF⟩ := q_bE hF
        refine v_callS (pc := 190) (As := [.int r47, .int (1 : Int32), .int (0 : Int32)]) (rest := []) (st' := [.int r50]) (r := some (.int r50)) (M1 := M51) K (kX7_ended l K.2.2.2.2.2.2.1 hy hc49) (jg_S jl_X0_73 jw_t_X7_ended jw_n_X7 jw_c_X7_ended) rfl rfl rfl jd_X7_ended ⟨Nat.le_of_ble_eq_true rfl, Nat.le_of_ble_eq_true rfl⟩ rfl rfl (Nat.le_of_ble_eq_true rfl) dX0_after_190 rfl ?_
        have hz := (Option.some.inj hF).symm
        subst hz
        exact v_iret (pc := 193) K hQ dX0_after_193
def fX0_after_b139 (M : QM) (x1 : Int32) (x2 : Int32) (x4 : Int32) (x5 : Int32) (x6 : Int32) (x7 : Int32) (x8 : Int32) (s0 : Int32) : Option (Int32 × QM) := if x2 ≠ (8 : Int32) then (fX0_after_b155 M x1 x5 x6 x7 x8 s0 (0 : Int32)) else (fX0_after_b155 M x1 x5 x6 x7 x8 s0 (x4 + (1 : Int32)))
set_option maxRecDepth 100000 in
set_option maxHeartbeats 4000000 in
theorem bX0_after_139 {x : Cx} {y : Ly} (l : Launch) (K : VK x l rmX0_after y 13 cX0_after RX0 wqX0_after) (hy : y.2.2.2.2 = 0) {z : Int32 × QM} (hQ : VQ x y (some (.int z.1)) z.2 (some .int)) {M : QM} {x1 : Int32} {x2 : Int32} {x4 : Int32} {x5 : Int32} {x6 : Int32} {x7 : Int32} {x8 : Int32} {s0 : Int32} (hF : fX0_after_b139 M x1 x2 x4 x5 x6 x7 x8 s0 = some z) : V x y 13 M 139 [(0, .ref (ly_o y 4)), (1, .int x1), (2, .int x2), (4, .int x4), (5, .int x5), (6, .int x6), (7, .int x7), (8, .int x8)] [.int s0] := by
  unfold fX0_after_b139 at hF
  refine v_istore (pc := 139) (lv' := [(9, .int s0), (0, .ref (ly_o y 4)), (1, .int x1), (2, .int x2), (4, .int x4), (5, .int x5), (6, .int x6), (7, .int x7), (8, .int x8)]) K 9 dX0_after_139 (by decide) rfl ?_
  refine v_iload_n (pc := 141) K dX0_after_141 3 rfl ?_
  refine v_bipush (pc := 142) (v := 8) K dX0_after_142 rfl ?_
  refine v_icmp_ne (pc := 144) (tgt := 154) K dX0_after_144 (by decide) hF (fun c42 hF => ?_) (fun c42 hF => ?_)
  · refine v_iconst (pc := 154) (v := 0) K dX0_after_154 rfl ?_
    refine v_sub [1, 2, 5, 6, 7, 8, 0] rfl ?_
    exact bX0_after_155 l K hy hQ hF
  · refine v_iload (pc := 147) K dX0_after_147 4 rfl ?_
    refine v_iconst (pc := 149) (v := 1) K dX0_after_149 rfl ?_
    refine v_iadd (pc := 150) K dX0_after_150 ?_
    refine v_goto (pc := 151) (tgt := 155) K dX0_after_151 (by decide) ?_
    refine v_sub [1, 2, 5, 6, 7, 8, 0] rfl ?_
    exact bX0_after_155 l K hy hQ hF
def fX0_after_b125 (M : QM) (x1 : Int32) (x2 : Int32) (x4 : Int32) (x5 : Int32) (x6 : Int32) (x7 : Int32) (s0 : Int32) : Option (Int32 × QM) := if x4 ≠ (0 : Int32) then (fX0_after_b139 M x1 x2 x4 x5 x6 x7 s0 x6) else (fX0_after_b139 M x1 x2 x4 x5 x6 x7 s0 x7)
set_option maxRecDepth 100000 in
set_option maxHeartbeats 4000000 in
theorem bX0_after_125 {x : Cx} {y : Ly} (l : Launch) (K : VK x l rmX0_after y 13 cX0_after RX0 wqX0_after) (hy : y.2.2.2.2 = 0) {z : Int32 × QM} (hQ : VQ x y (some (.int z.1)) z.2 (some .int)) {M : QM} {x1 : Int32} {x2 : Int32} {x4 : Int32} {x5 : Int32} {x6 : Int32} {x7 : Int32} {s0 : Int32} (hF : fX0_after_b125 M x1 x2 x4 x5 x6 x7 s0 = some z) : V x y 13 M 125 [(0, .ref (ly_o y 4)), (1, .int x1), (2, .int x2), (4, .int x4), (5, .int x5), (6, .int x6), (7, .int x7)] [.int s0] := by
  unfold fX0_after_b125 at hF
  refine v_istore (pc := 125) (lv' := [(8, .int s0), (0, .ref (ly_o y 4)), (1, .int x1), (2, .int x2), (4, .int x4), (5, .int x5), (6, .int x6), (7, .int x7)]) K 8 dX0_after_125 (by decide) rfl ?_
  refine v_iload (pc := 127) K dX0_after_127 4 rfl ?_
  refine v_if_ne (pc := 129) (tgt := 137) K dX0_after_129 (by decide) hF (fun c41 hF => ?_) (fun c41 hF => ?_)
  · refine v_iload (pc := 137) K dX0_after_137 6 rfl ?_
    refine v_sub [1, 2, 3, 4, 5, 6, 7, 0] rfl ?_
    exact bX0_after_139 l K hy hQ hF
  · refine v_iload (pc := 132) K dX0_after_132 7 rfl ?_
    refine v_goto (pc := 134) (tgt := 139) K dX0_after_134 (by decide) ?_
    refine v_sub [1, 2, 3, 4, 5, 6, 7, 0] rfl ?_
    exact bX0_after_139 l K hy hQ hF
def fX0_after_b113 (M : QM) (x1 : Int32) (x2 : Int32) (x4 : Int32) (x5 : Int32) (x6 : Int32) (x7 : Int32) : Option (Int32 × QM) := if x4 ≠ (0 : Int32) then (fX0_after_b125 M x1 x2 x4 x5 x6 x7 x7) else (fX0_after_b125 M x1 x2 x4 x5 x6 x7 x6)
set_option maxRecDepth 100000 in
set_option maxHeartbeats 4000000 in
theorem bX0_after_113 {x : Cx} {y : Ly} (l : Launch) (K : VK x l rmX0_after y 13 cX0_after RX0 wqX0_after) (hy : y.2.2.2.2 = 0) {z : Int32 × QM} (hQ : VQ x y (some (.int z.1)) z.2 (some .int)) {M : QM} {x1 : Int32} {x2 : Int32} {x4 : Int32} {x5 : Int32} {x6 : Int32} {x7 : Int32} (hF : fX0_after_b113 M x1 x2 x4 x5 x6 x7 = some z) : V x y 13 M 113 [(0, .ref (ly_o y 4)), (1, .int x1), (2, .int x2), (4, .int x4), (5, .int x5), (6, .int x6), (7, .int x7)] [] := by
  unfold fX0_after_b113 at hF
  refine v_iload (pc := 113) K dX0_after_113 3 rfl ?_
  refine v_if_ne (pc := 115) (tgt := 123) K dX0_after_115 (by decide) hF (fun c40 hF => ?_) (fun c40 hF => ?_)
  · refine v_iload (pc := 123) K dX0_after_123 6 rfl ?_
    exact bX0_after_125 l K hy hQ hF
  · refine v_iload (pc := 118) K dX0_after_118 5 rfl ?_
    refine v_goto (pc := 120) (tgt := 125) K dX0_after_120 (by decide) ?_
    exact bX0_after_125 l K hy hQ hF
def fX0_after (M : QM) (x1 : Int32) (x2 : Int32) (x3 : Int32) : Option (Int32 × QM) := (q_b (fX7_turn M x1) fun r2 M3 => (q_b (fX7_asked M3 x1) fun r5 M6 => if r5 = (0 : Int32) then (q_b (fX7_owed M6 x1 r2) fun r8 M9 => (q_b (fX7_owed M9 x1 ((1 : Int32) - r2)) fun r11 M12 => if x3 = (0 : Int32) then (fX0_after_b113 M12 x1 x2 r2 ((1 : Int32) - r2) r8 r11) else if (8 : Int32) ≤ x2 then (fX0_after_b113 M12 x1 x2 r2 ((1 : Int32) - r2) r8 r11) else (q_b (fX0_look M12 x1) fun r14 M15 => (q_b (fX0_codeOf M15 ((1 : Int32) - r2)) fun r17 M18 => (if kls r17 = 2 then (q_b (fX0_weighed M18 ((r14 >>> (((4 : Int32) * x2) &&& (31 : Int32))) &&& (15 : Int32)) r17) fun r21 M22 => (q_b (fX0_changed M22 r11 x2 r21) fun r24 M25 => (fX0_after_b113 M25 x1 x2 r2 ((1 : Int32) - r2) r8 r24))) else none))))) else if x2 ≠ (8 : Int32) then (q_b (fX0_look M6 x1) fun r29 M30 => if r29 ≠ (1 : Int32) then (fX0_after_b47 M30 ((1 : Int32) + r2) (3 : Int32) x1) else (fX0_after_b47 M30 (0 : Int32) (3 : Int32) x1)) else (q_b (fX7_ended M6 x1 (2 : Int32) (0 : Int32)) fun r33 M34 => some (r33, M34))))
set_option maxRecDepth 100000 in
set_option maxHeartbeats 4000000 in
theorem bX0_after_0 {x : Cx} {y : Ly} (l : Launch) (K : VK x l rmX0_after y 13 cX0_after RX0 wqX0_after) (hy : y.2.2.2.2 = 0) {z : Int32 × QM} (hQ : VQ x y (some (.int z.1)) z.2 (some .int)) {M : QM} {x1 : Int32} {x2 : Int32} {x3 : Int32} (hF : fX0_after M x1 x2 x3 = some z) : V x y 13 M 0 [(0, .ref (ly_o y 4)), (1, .int x1), (2, .int x2), (3, .int x3)] [] := by
  unfold fX0_after at hF
  refine v_iload_n (pc := 0) K dX0_after_0 1 rfl ?_
  obtain ⟨r2, M3, hc1, hF⟩ := q_bE hF
  refine v_callS (pc := 1) (As := [.int x1]) (rest := []) (st' := [.int r2]) (r := some (.int r2)) (M1 := M3) K (kX7_turn l K.2.2.2.2.2.2.1 hy hc1) (jg_S jl_X0_84 jw_t_X7_turn jw_n_X7 jw_c_X7_turn) rfl rfl rfl jd_X7_turn ⟨Nat.le_of_ble_eq_true rfl, Nat.le_of_ble_eq_true rfl⟩ rfl rfl (Nat.le_of_ble_eq_true rfl) dX0_after_1 rfl ?_
  refine v_istore (pc := 4) (lv' := [(4, .int r2), (0, .ref (ly_o y 4)), (1, .int x1), (2, .int x2), (3, .int x3)]) K 4 dX0_after_4 (by decide) rfl ?_
  refine v_iload_n (pc := 6) K dX0_after_6 2 rfl ?_
  obtain ⟨r5, M6, hc4, hF⟩ := q_bE hF
  refine v_callS (pc := 7) (As := [.int x1]) (rest := []) (st' := [.int r5]) (r := some (.int r5)) (M1 := M6) K (kX7_asked l K.2.2.2.2.2.2.1 hy hc4) (jg_S jl_X0_81 jw_t_X7_asked jw_n_X7 jw_c_X7_asked) rfl rfl rfl jd_X7_asked ⟨Nat.le_of_ble_eq_true rfl, Nat.le_of_ble_eq_true rfl⟩ rfl rfl (Nat.le_of_ble_eq_true rfl) dX0_after_7 rfl ?_
  refine v_if_eq (pc := 10) (tgt := 51) K dX0_after_10 (by decide) hF (fun c36 hF => ?_) (fun c36 hF => ?_)
  · refine v_iconst (pc := 51) (v := 1) K dX0_after_51 rfl ?_
    refine v_iload (pc := 52) K dX0_after_52 0 rfl ?_
    refine v_isub (pc := 54) K dX0_after_54 ?_
    refine v_istore (pc := 55) (lv' := [(5, .int ((1 : Int32) - r2)), (4, .int r2), (0, .ref (ly_o y 4)), (1, .int x1), (2, .int x2), (3, .int x3)]) K 5 dX0_after_55 (by decide) rfl ?_
    refine v_iload_n (pc := 57) K dX0_after_57 3 rfl ?_
    refine v_iload (pc := 58) K dX0_after_58 1 rfl ?_
    obtain ⟨r8, M9, hc7, hF⟩ := q_bE hF
    refine v_callS (pc := 60) (As := [.int x1, .int r2]) (rest := []) (st' := [.int r8]) (r := some (.int r8)) (M1 := M9) K (kX7_owed l K.2.2.2.2.2.2.1 hy hc7) (jg_S jl_X0_87 jw_t_X7_owed jw_n_X7 jw_c_X7_owed) rfl rfl rfl jd_X7_owed ⟨Nat.le_of_ble_eq_true rfl, Nat.le_of_ble_eq_true rfl⟩ rfl rfl (Nat.le_of_ble_eq_true rfl) dX0_after_60 rfl ?_
    refine v_istore (pc := 63) (lv' := [(6, .int r8), (5, .int ((1 : Int32) - r2)), (4, .int r2), (0, .ref (ly_o y 4)), (1, .int x1), (2, .int x2), (3, .int x3)]) K 6 dX0_after_63 (by decide) rfl ?_
    refine v_iload_n (pc := 65) K dX0_after_65 4 rfl ?_
    refine v_iload (pc := 66) K dX0_after_66 1 rfl ?_
    obtain ⟨r11, M12, hc10, hF⟩ := q_bE hF
    refine v_callS (pc := 68) (As := [.int x1, .int ((1 : Int32) - r2)]) (rest := []) (st' := [.int r11]) (r := some (.int r11)) (M1 := M12) K (kX7_owed l K.2.2.2.2.2.2.1 hy hc10) (jg_S jl_X0_87 jw_t_X7_owed jw_n_X7 jw_c_X7_owed) rfl rfl rfl jd_X7_owed ⟨Nat.le_of_ble_eq_true rfl, Nat.le_of_ble_eq_true rfl⟩ rfl rfl (Nat.le_of_ble_eq_true rfl) dX0_after_68 rfl ?_
    refine v_istore (pc := 71) (lv' := [(7, .int r11), (6, .int r8), (5, .int ((1 : Int32) - r2)), (4, .int r2), (0, .ref (ly_o y 4)), (1, .int x1), (2, .int x2), (3, .int x3)]) K 7 dX0_after_71 (by decide) rfl ?_
    refine v_iload_n (pc := 73) K dX0_after_73 7 rfl ?_
    refine v_if_eq (pc := 74) (tgt := 113) K dX0_after_74 (by decide) hF (fun c27 hF => ?_) (fun c27 hF => ?_)
    · refine v_sub [4, 5, 6, 3, 2, 1, 0] rfl ?_
      exact bX0_after_113 l K hy hQ hF
    · refine v_iload_n (pc := 77) K dX0_after_77 6 rfl ?_
      refine v_bipush (pc := 78) (v := 8) K dX0_after_78 rfl ?_
      refine v_icmp_ge (pc := 80) (tgt := 113) K dX0_after_80 (by decide) hF (fun c26 hF => ?_) (fun c26 hF => ?_)
      · refine v_sub [4, 5, 6, 3, 2, 1, 0] rfl ?_
        exact bX0_after_113 l K hy hQ hF
      · refine v_iload (pc := 83) K dX0_after_83 0 rfl ?_
        refine v_iload_n (pc := 85) K dX0_after_85 6 rfl ?_
        refine v_aload_n (pc := 86) K dX0_after_86 4 rfl ?_
        refine v_aload_n (pc := 87) K dX0_after_87 4 rfl ?_
        refine v_iload_n (pc := 88) K dX0_after_88 5 rfl ?_
        obtain ⟨r14, M15, hc13, hF⟩ := q_bE hF
        refine v_callV (pc := 89) (ci := 0) (As := [.int x1]) (rest := [.ref (ly_o y 4), .int x2, .int r11]) (st' := [.int r14, .ref (ly_o y 4), .int x2, .int r11]) (r := some (.int r14)) (M1 := M15) K (kX0_look l K.2.2.2.2.2.2.1 hy hc13) (jg_V jl_X0_97 jw_i_X0_look jw_s_X0_look jw_n_X0 jw_c_X0_look) rfl rfl rfl jd_X0_look ⟨Nat.le_of_ble_eq_true rfl, Nat.le_of_ble_eq_true rfl⟩ rfl rfl (Nat.le_of_ble_eq_true rfl) (by decide) (okc_0 hy (by decide)) rfl dX0_after_89 rfl ?_
        refine v_iconst (pc := 92) (v := 4) K dX0_after_92 rfl ?_
        refine v_iload_n (pc := 93) K dX0_after_93 6 rfl ?_
        refine v_imul (pc := 94) K dX0_after_94 ?_
        refine v_ishr (pc := 95) K dX0_after_95 ?_
        refine v_bipush (pc := 96) (v := 15) K dX0_after_96 rfl ?_
        refine v_iand (pc := 98) K dX0_after_98 ?_
        refine v_aload_n (pc := 99) K dX0_after_99 4 rfl ?_
        refine v_iload (pc := 100) K dX0_after_100 2 rfl ?_
        obtain ⟨r17, M18, hc16, hF⟩ := q_bE hF
        obtain ⟨ho19, hF⟩ := q_kE hF
        refine v_callV (pc := 102) (ci := 0) (As := [.int ((1 : Int32) - r2)]) (rest := [.int ((r14 >>> (((4 : Int32) * x2) &&& (31 : Int32))) &&& (15 : Int32)), .ref (ly_o y 4), .int x2, .int r11]) (st' := [.ref (ly_o y r17), .int ((r14 >>> (((4 : Int32) * x2) &&& (31 : Int32))) &&& (15 : Int32)), .ref (ly_o y 4), .int x2, .int r11]) (r := some (.ref (ly_o y r17))) (M1 := M18) K (kX0_codeOf l K.2.2.2.2.2.2.1 hy hc16) (jg_V jl_X0_90 jw_i_X0_codeOf jw_s_X0_codeOf jw_n_X0 jw_c_X0_codeOf) rfl rfl rfl jd_X0_codeOf ⟨Nat.le_of_ble_eq_true rfl, Nat.le_of_ble_eq_true rfl⟩ rfl rfl (Nat.le_of_ble_eq_true rfl) (by decide) (okc_0 hy (by decide)) rfl dX0_after_102 rfl ?_
        obtain ⟨r21, M22, hc20, hF⟩ := q_bE hF
        refine v_callV (pc := 105) (ci := 0) (As := [.int ((r14 >>> (((4 : Int32) * x2) &&& (31 : Int32))) &&& (15 : Int32)), .ref (ly_o y r17)]) (rest := [.int x2, .int r11]) (st' := [.int r21, .int x2, .int r11]) (r := some (.int r21)) (M1 := M22) K (kX0_weighed l K.2.2.2.2.2.2.1 hy ho19 hc20) (jg_V jl_X0_100 jw_i_X0_weighed jw_s_X0_weighed jw_n_X0 jw_c_X0_weighed) rfl rfl rfl jd_X0_weighed ⟨Nat.le_of_ble_eq_true rfl, Nat.le_of_ble_eq_true rfl⟩ rfl rfl (Nat.le_of_ble_eq_true rfl) (by decide) (okc_0 hy (by decide)) rfl dX0_after_105 rfl ?_
        obtain ⟨r24, M25, hc23, hF⟩ := q_bE hF
        refine v_callS (pc := 108) (As := [.int r11, .int x2, .int r21]) (rest := []) (st' := [.int r24]) (r := some (.int r24)) (M1 := M25) K (kX0_changed l K.2.2.2.2.2.2.1 hy hc23) (jg_S jl_X0_104 jw_t_X0_changed jw_n_X0 jw_c_X0_changed) rfl rfl rfl jd_X0_changed ⟨Nat.le_of_ble_eq_true rfl, Nat.le_of_ble_eq_true rfl⟩ rfl rfl (Nat.le_of_ble_eq_true rfl) dX0_after_108 rfl ?_
        refine v_istore (pc := 111) (lv' := [(7, .int r24), (6, .int r8), (5, .int ((1 : Int32) - r2)), (4, .int r2), (0, .ref (ly_o y 4)), (1, .int x1), (2, .int x2), (3, .int x3)]) K 7 dX0_after_111 (by decide) rfl ?_
        refine v_sub [4, 5, 6, 3, 2, 1, 0] rfl ?_
        exact bX0_after_113 l K hy hQ hF
  · refine v_iload_n (pc := 13) K dX0_after_13 3 rfl ?_
    refine v_bipush (pc := 14) (v := 8) K dX0_after_14 rfl ?_
    refine v_icmp_ne (pc := 16) (tgt := 28) K dX0_after_16 (by decide) hF (fun c35 hF => ?_) (fun c35 hF => ?_)
    · refine v_iload_n (pc := 28) K dX0_after_28 2 rfl ?_
      refine v_iconst (pc := 29) (v := 3) K dX0_after_29 rfl ?_
      refine v_aload_n (pc := 30) K dX0_after_30 1 rfl ?_
      refine v_iload_n (pc := 31) K dX0_after_31 2 rfl ?_
      obtain ⟨r29, M30, hc28, hF⟩ := q_bE hF
      refine v_callV (pc := 32) (ci := 0) (As := [.int x1]) (rest := [.int (3 : Int32), .int x1]) (st' := [.int r29, .int (3 : Int32), .int x1]) (r := some (.int r29)) (M1 := M30) K (kX0_look l K.2.2.2.2.2.2.1 hy hc28) (jg_V jl_X0_97 jw_i_X0_look jw_s_X0_look jw_n_X0 jw_c_X0_look) rfl rfl rfl jd_X0_look ⟨Nat.le_of_ble_eq_true rfl, Nat.le_of_ble_eq_true rfl⟩ rfl rfl (Nat.le_of_ble_eq_true rfl) (by decide) (okc_0 hy (by decide)) rfl dX0_after_32 rfl ?_
      refine v_iconst (pc := 35) (v := 1) K dX0_after_35 rfl ?_
      refine v_icmp_ne (pc := 36) (tgt := 43) K dX0_after_36 (by decide) hF (fun c31 hF => ?_) (fun c31 hF => ?_)
      · refine v_iconst (pc := 43) (v := 1) K dX0_after_43 rfl ?_
        refine v_iload (pc := 44) K dX0_after_44 0 rfl ?_
        refine v_iadd (pc := 46) K dX0_after_46 ?_
        refine v_sub [] rfl ?_
        exact bX0_after_47 l K hy hQ hF
      · refine v_iconst (pc := 39) (v := 0) K dX0_after_39 rfl ?_
        refine v_goto (pc := 40) (tgt := 47) K dX0_after_40 (by decide) ?_
        refine v_sub [] rfl ?_
        exact bX0_after_47 l K hy hQ hF
    · refine v_iload_n (pc := 19) K dX0_after_19 2 rfl ?_
      refine v_iconst (pc := 20) (v := 2) K dX0_after_20 rfl ?_
      refine v_iconst (pc := 21) (v := 0) K dX0_after_21 rfl ?_
      obtain ⟨r33, M34, hc32, hF⟩ := q_bE hF
      refine v_callS (pc := 22) (As := [.int x1, .int (2 : Int32), .int (0 : Int32)]) (rest := []) (st' := [.int r33]) (r := some (.int r33)) (M1 := M34) K (kX7_ended l K.2.2.2.2.2.2.1 hy hc32) (jg_S jl_X0_73 jw_t_X7_ended jw_n_X7 jw_c_X7_ended) rfl rfl rfl jd_X7_ended ⟨Nat.le_of_ble_eq_true rfl, Nat.le_of_ble_eq_true rfl⟩ rfl rfl (Nat.le_of_ble_eq_true rfl) dX0_after_22 rfl ?_
      refine v_goto (pc := 25) (tgt := 50) K dX0_after_25 (by decide) ?_
      have hz := (Option.some.inj hF).symm
      subst hz
      exact v_iret (pc := 50) K hQ dX0_after_50
set_option maxRecDepth 100000 in
set_option maxHeartbeats 4000000 in
theorem kX0_after (l : Launch) {y : Ly} (hJ : ly_J y) (hy : y.2.2.2.2 = 0) {M M1 : QM} {r : Int32} {x1 : Int32} {x2 : Int32} {x3 : Int32} (hF : fX0_after M x1 x2 x3 = some (r, M1)) : Met l yX0_after wqX0_after rmX0_after (q_P y [.ref (ly_o y 4), .int x1, .int x2, .int x3] M) (q_E y (some (.int r)) M1) 0 0 (ly_A y) :=
  q_met (by decide) rfl hJ rfl rfl rfl (fun x K hQ => bX0_after_0 l K hy (z := (r, M1)) hQ  hF)
-- ===== X0_heard (LTwoCards$Quarrel;I)I
theorem jd_X0_heard : yX0_heard.cls = RX0 ∧ yX0_heard.cls ≠ "java/lang/invoke/MethodHandle" ∧ yX0_heard.cls ≠ "java/lang/invoke/VarHandle" ∧ (parseMethodDescriptor yX0_heard.desc).map (fun d => d.parameters.length) = some 2 := by decide +kernel
abbrev wqX0_heard : List Cond := .code yX0_heard cX0_heard 5 (some .int) :: wsL_law
abbrev rmX0_heard : Room := { frames := 5, cells := 0, slots := 0, locals := 129 }
def fX0_heard_b69 (k24 : QM → Nat → Int32 → Int32 → Int32 → Option (Int32 × QM)) (M : QM) (o1 : Nat) (x2 : Int32) (x4 : Int32) (s0 : Int32) (s1 : Int32) (s2 : Int32) : Option (Int32 × QM) := (q_b (fX0_after M s2 s1 s0) fun r21 M22 => (k24 M22 o1 x2 r21 (x4 + (1 : Int32))))
set_option maxRecDepth 100000 in
set_option maxHeartbeats 4000000 in
theorem bX0_heard_69 {x : Cx} {y : Ly} (l : Launch) (K : VK x l rmX0_heard y 5 cX0_heard RX0 wqX0_heard) (hy : y.2.2.2.2 = 0) {z : Int32 × QM} (hQ : VQ x y (some (.int z.1)) z.2 (some .int)) {k24 : QM → Nat → Int32 → Int32 → Int32 → Option (Int32 × QM)} (hk24 : ∀ {M : QM} {o1 : Nat} {x2 : Int32} {x3 : Int32} {x4 : Int32}, kls o1 = 4 → k24 M o1 x2 x3 x4 = some z → V x y 5 M 24 [(0, .ref (ly_o y 4)), (1, .ref (ly_o y o1)), (2, .int x2), (3, .int x3), (4, .int x4)] []) {M : QM} {o1 : Nat} {x2 : Int32} {x4 : Int32} {s0 : Int32} {s1 : Int32} {s2 : Int32} (ho1 : kls o1 = 4) (hF : fX0_heard_b69 k24 M o1 x2 x4 s0 s1 s2 = some z) : V x y 5 M 69 [(0, .ref (ly_o y 4)), (1, .ref (ly_o y o1)), (2, .int x2), (4, .int x4)] [.int s0, .int s1, .int s2, .ref (ly_o y 4)] := by
  unfold fX0_heard_b69 at hF
  obtain ⟨r21, M22, hc20, hF⟩ := q_bE hF
  refine v_callV (pc := 69) (ci := 0) (As := [.int s2, .int s1, .int s0]) (rest := []) (st' := [.int r21]) (r := some (.int r21)) (M1 := M22) K (kX0_after l K.2.2.2.2.2.2.1 hy hc20) (jg_V jl_X0_129 jw_i_X0_after jw_s_X0_after jw_n_X0 jw_c_X0_after) rfl rfl rfl jd_X0_after ⟨Nat.le_of_ble_eq_true rfl, Nat.le_of_ble_eq_true rfl⟩ rfl rfl (Nat.le_of_ble_eq_true rfl) (by decide) (okc_0 hy (by decide)) rfl dX0_heard_69 rfl ?_
  refine v_istore_n (pc := 72) (lv' := [(3, .int r21), (0, .ref (ly_o y 4)), (1, .ref (ly_o y o1)), (2, .int x2), (4, .int x4)]) K dX0_heard_72 3 rfl (by decide) rfl ?_
  refine v_iinc (pc := 73) (v1 := x4 + (1 : Int32)) (lv' := [(4, .int (x4 + (1 : Int32))), (3, .int r21), (0, .ref (ly_o y 4)), (1, .ref (ly_o y o1)), (2, .int x2)]) K dX0_heard_73 4 rfl rfl (by decide) rfl ?_
  refine v_goto (pc := 76) (tgt := 24) K dX0_heard_76 (by decide) ?_
  refine v_sub [2, 3, 4, 1, 0] rfl ?_
  exact hk24 ho1 hF
def fX0_heard_b24 : Nat → QM → Nat → Int32 → Int32 → Int32 → Option (Int32 × QM)
  | 0, _, _, _, _, _ => none
  | q + 1, M, o1, x2, x3, x4 => if (q_i M o1 7) ≤ x4 then some (x3, M) else (q_b (fX4_moveAt M o1 x4) fun r9 M10 => (q_b (fX0_allows M10 x3 r9) fun r12 M13 => if r12 = (0 : Int32) then some (x3, M13) else (q_b (fX4_moveAt M13 o1 x4) fun r15 M16 => if ((x2 >>> (x4 &&& (31 : Int32))) &&& (1 : Int32)) ≠ (0 : Int32) then (fX0_heard_b69 (fun M o1 x2 x3 x4 => fX0_heard_b24 q M o1 x2 x3 x4) M16 o1 x2 x4 (0 : Int32) r15 x3) else (fX0_heard_b69 (fun M o1 x2 x3 x4 => fX0_heard_b24 q M o1 x2 x3 x4) M16 o1 x2 x4 (1 : Int32) r15 x3))))
set_option maxRecDepth 100000 in
set_option maxHeartbeats 4000000 in
theorem bX0_heard_24 {x : Cx} {y : Ly} (l : Launch) (K : VK x l rmX0_heard y 5 cX0_heard RX0 wqX0_heard) (hy : y.2.2.2.2 = 0) {z : Int32 × QM} (hQ : VQ x y (some (.int z.1)) z.2 (some .int)) : ∀ (q : Nat) {M : QM} {o1 : Nat} {x2 : Int32} {x3 : Int32} {x4 : Int32}, kls o1 = 4 →  fX0_heard_b24 q M o1 x2 x3 x4 = some z → V x y 5 M 24 [(0, .ref (ly_o y 4)), (1, .ref (ly_o y o1)), (2, .int x2), (3, .int x3), (4, .int x4)] [] := by
  intro q
  induction q with
  | zero =>
    intro M o1 x2 x3 x4 ho1 hF
    rw [fX0_heard_b24] at hF
    cases hF
  | succ q ih =>
    intro M o1 x2 x3 x4 ho1 hF
    rw [fX0_heard_b24] at hF
    refine v_iload (pc := 24) K dX0_heard_24 4 rfl ?_
    refine v_aload_n (pc := 26) K dX0_heard_26 1 rfl ?_
    refine gX4_done (pc := 27) K hy ho1 jn_X4 (List.mem_cons_of_mem _ jl_X0_122) dX0_heard_27 ?_
    refine v_icmp_ge (pc := 30) (tgt := 79) K dX0_heard_30 (by decide) hF (fun c19 hF => ?_) (fun c19 hF => ?_)
    · refine v_iload_n (pc := 79) K dX0_heard_79 3 rfl ?_
      have hz := (Option.some.inj hF).symm
      subst hz
      exact v_iret (pc := 80) K hQ dX0_heard_80
    · refine v_aload_n (pc := 33) K dX0_heard_33 0 rfl ?_
      refine v_iload_n (pc := 34) K dX0_heard_34 3 rfl ?_
      refine v_aload_n (pc := 35) K dX0_heard_35 1 rfl ?_
      refine v_iload (pc := 36) K dX0_heard_36 4 rfl ?_
      obtain ⟨r9, M10, hc8, hF⟩ := q_bE hF
      refine v_callV (pc := 38) (ci := 4) (As := [.int x4]) (rest := [.int x3, .ref (ly_o y 4)]) (st' := [.int r9, .int x3, .ref (ly_o y 4)]) (r := some (.int r9)) (M1 := M10) K (kX4_moveAt l K.2.2.2.2.2.2.1 hy ho1 hc8) (jg_V jl_X0_113 jw_i_X4_moveAt jw_s_X4_moveAt jw_n_X4 jw_c_X4_moveAt) rfl rfl rfl jd_X4_moveAt ⟨Nat.le_of_ble_eq_true rfl, Nat.le_of_ble_eq_true rfl⟩ rfl rfl (Nat.le_of_ble_eq_true rfl) ho1 (okc_0 hy (by decide)) rfl dX0_heard_38 rfl ?_
      obtain ⟨r12, M13, hc11, hF⟩ := q_bE hF
      refine v_callV (pc := 41) (ci := 0) (As := [.int x3, .int r9]) (rest := []) (st' := [.int r12]) (r := some (.int r12)) (M1 := M13) K (kX0_allows l K.2.2.2.2.2.2.1 hy hc11) (jg_V jl_X0_125 jw_i_X0_allows jw_s_X0_allows jw_n_X0 jw_c_X0_allows) rfl rfl rfl jd_X0_allows ⟨Nat.le_of_ble_eq_true rfl, Nat.le_of_ble_eq_true rfl⟩ rfl rfl (Nat.le_of_ble_eq_true rfl) (by decide) (okc_0 hy (by decide)) rfl dX0_heard_41 rfl ?_
      refine v_if_eq (pc := 44) (tgt := 79) K dX0_heard_44 (by decide) hF (fun c18 hF => ?_) (fun c18 hF => ?_)
      · refine v_iload_n (pc := 79) K dX0_heard_79 3 rfl ?_
        have hz := (Option.some.inj hF).symm
        subst hz
        exact v_iret (pc := 80) K hQ dX0_heard_80
      · refine v_aload_n (pc := 47) K dX0_heard_47 0 rfl ?_
        refine v_iload_n (pc := 48) K dX0_heard_48 3 rfl ?_
        refine v_aload_n (pc := 49) K dX0_heard_49 1 rfl ?_
        refine v_iload (pc := 50) K dX0_heard_50 4 rfl ?_
        obtain ⟨r15, M16, hc14, hF⟩ := q_bE hF
        refine v_callV (pc := 52) (ci := 4) (As := [.int x4]) (rest := [.int x3, .ref (ly_o y 4)]) (st' := [.int r15, .int x3, .ref (ly_o y 4)]) (r := some (.int r15)) (M1 := M16) K (kX4_moveAt l K.2.2.2.2.2.2.1 hy ho1 hc14) (jg_V jl_X0_113 jw_i_X4_moveAt jw_s_X4_moveAt jw_n_X4 jw_c_X4_moveAt) rfl rfl rfl jd_X4_moveAt ⟨Nat.le_of_ble_eq_true rfl, Nat.le_of_ble_eq_true rfl⟩ rfl rfl (Nat.le_of_ble_eq_true rfl) ho1 (okc_0 hy (by decide)) rfl dX0_heard_52 rfl ?_
        refine v_iload_n (pc := 55) K dX0_heard_55 2 rfl ?_
        refine v_iload (pc := 56) K dX0_heard_56 4 rfl ?_
        refine v_ishr (pc := 58) K dX0_heard_58 ?_
        refine v_iconst (pc := 59) (v := 1) K dX0_heard_59 rfl ?_
        refine v_iand (pc := 60) K dX0_heard_60 ?_
        refine v_if_ne (pc := 61) (tgt := 68) K dX0_heard_61 (by decide) hF (fun c17 hF => ?_) (fun c17 hF => ?_)
        · refine v_iconst (pc := 68) (v := 0) K dX0_heard_68 rfl ?_
          refine v_sub [0, 1, 2, 4] rfl ?_
          exact bX0_heard_69 l K hy hQ ih ho1 hF
        · refine v_iconst (pc := 64) (v := 1) K dX0_heard_64 rfl ?_
          refine v_goto (pc := 65) (tgt := 69) K dX0_heard_65 (by decide) ?_
          refine v_sub [0, 1, 2, 4] rfl ?_
          exact bX0_heard_69 l K hy hQ ih ho1 hF
def fX0_heard_b17 (M : QM) (o1 : Nat) (x2 : Int32) (s0 : Int32) (s1 : Int32) : Option (Int32 × QM) := (q_b (fX0_open M s1 s0) fun r6 M7 => (fX0_heard_b24 q_F M7 o1 x2 r6 (1 : Int32)))
set_option maxRecDepth 100000 in
set_option maxHeartbeats 4000000 in
theorem bX0_heard_17 {x : Cx} {y : Ly} (l : Launch) (K : VK x l rmX0_heard y 5 cX0_heard RX0 wqX0_heard) (hy : y.2.2.2.2 = 0) {z : Int32 × QM} (hQ : VQ x y (some (.int z.1)) z.2 (some .int)) {M : QM} {o1 : Nat} {x2 : Int32} {s0 : Int32} {s1 : Int32} (ho1 : kls o1 = 4) (hF : fX0_heard_b17 M o1 x2 s0 s1 = some z) : V x y 5 M 17 [(0, .ref (ly_o y 4)), (1, .ref (ly_o y o1)), (2, .int x2)] [.int s0, .int s1, .ref (ly_o y 4)] := by
  unfold fX0_heard_b17 at hF
  obtain ⟨r6, M7, hc5, hF⟩ := q_bE hF
  refine v_callV (pc := 17) (ci := 0) (As := [.int s1, .int s0]) (rest := []) (st' := [.int r6]) (r := some (.int r6)) (M1 := M7) K (kX0_open l K.2.2.2.2.2.2.1 hy hc5) (jg_V jl_X0_118 jw_i_X0_open jw_s_X0_open jw_n_X0 jw_c_X0_open) rfl rfl rfl jd_X0_open ⟨Nat.le_of_ble_eq_true rfl, Nat.le_of_ble_eq_true rfl⟩ rfl rfl (Nat.le_of_ble_eq_true rfl) (by decide) (okc_0 hy (by decide)) rfl dX0_heard_17 rfl ?_
  refine v_istore_n (pc := 20) (lv' := [(3, .int r6), (0, .ref (ly_o y 4)), (1, .ref (ly_o y o1)), (2, .int x2)]) K dX0_heard_20 3 rfl (by decide) rfl ?_
  refine v_iconst (pc := 21) (v := 1) K dX0_heard_21 rfl ?_
  refine v_istore (pc := 22) (lv' := [(4, .int (1 : Int32)), (3, .int r6), (0, .ref (ly_o y 4)), (1, .ref (ly_o y o1)), (2, .int x2)]) K 4 dX0_heard_22 (by decide) rfl ?_
  refine v_sub [2, 3, 4, 1, 0] rfl ?_
  exact bX0_heard_24 l K hy hQ q_F ho1 hF
def fX0_heard (M : QM) (o1 : Nat) (x2 : Int32) : Option (Int32 × QM) := (q_b (fX4_moveAt M o1 (0 : Int32)) fun r2 M3 => if (x2 &&& (1 : Int32)) ≠ (0 : Int32) then (fX0_heard_b17 M3 o1 x2 (0 : Int32) r2) else (fX0_heard_b17 M3 o1 x2 (1 : Int32) r2))
set_option maxRecDepth 100000 in
set_option maxHeartbeats 4000000 in
theorem bX0_heard_0 {x : Cx} {y : Ly} (l : Launch) (K : VK x l rmX0_heard y 5 cX0_heard RX0 wqX0_heard) (hy : y.2.2.2.2 = 0) {z : Int32 × QM} (hQ : VQ x y (some (.int z.1)) z.2 (some .int)) {M : QM} {o1 : Nat} {x2 : Int32} (ho1 : kls o1 = 4) (hF : fX0_heard M o1 x2 = some z) : V x y 5 M 0 [(0, .ref (ly_o y 4)), (1, .ref (ly_o y o1)), (2, .int x2)] [] := by
  unfold fX0_heard at hF
  refine v_aload_n (pc := 0) K dX0_heard_0 0 rfl ?_
  refine v_aload_n (pc := 1) K dX0_heard_1 1 rfl ?_
  refine v_iconst (pc := 2) (v := 0) K dX0_heard_2 rfl ?_
  obtain ⟨r2, M3, hc1, hF⟩ := q_bE hF
  refine v_callV (pc := 3) (ci := 4) (As := [.int (0 : Int32)]) (rest := [.ref (ly_o y 4)]) (st' := [.int r2, .ref (ly_o y 4)]) (r := some (.int r2)) (M1 := M3) K (kX4_moveAt l K.2.2.2.2.2.2.1 hy ho1 hc1) (jg_V jl_X0_113 jw_i_X4_moveAt jw_s_X4_moveAt jw_n_X4 jw_c_X4_moveAt) rfl rfl rfl jd_X4_moveAt ⟨Nat.le_of_ble_eq_true rfl, Nat.le_of_ble_eq_true rfl⟩ rfl rfl (Nat.le_of_ble_eq_true rfl) ho1 (okc_0 hy (by decide)) rfl dX0_heard_3 rfl ?_
  refine v_iload_n (pc := 6) K dX0_heard_6 2 rfl ?_
  refine v_iconst (pc := 7) (v := 1) K dX0_heard_7 rfl ?_
  refine v_iand (pc := 8) K dX0_heard_8 ?_
  refine v_if_ne (pc := 9) (tgt := 16) K dX0_heard_9 (by decide) hF (fun c4 hF => ?_) (fun c4 hF => ?_)
  · refine v_iconst (pc := 16) (v := 0) K dX0_heard_16 rfl ?_
    exact bX0_heard_17 l K hy hQ ho1 hF
  · refine v_iconst (pc := 12) (v := 1) K dX0_heard_12 rfl ?_
    refine v_goto (pc := 13) (tgt := 17) K dX0_heard_13 (by decide) ?_
    exact bX0_heard_17 l K hy hQ ho1 hF
set_option maxRecDepth 100000 in
set_option maxHeartbeats 4000000 in
theorem kX0_heard (l : Launch) {y : Ly} (hJ : ly_J y) (hy : y.2.2.2.2 = 0) {M M1 : QM} {r : Int32} {o1 : Nat} {x2 : Int32} (ho1 : kls o1 = 4) (hF : fX0_heard M o1 x2 = some (r, M1)) : Met l yX0_heard wqX0_heard rmX0_heard (q_P y [.ref (ly_o y 4), .ref (ly_o y o1), .int x2] M) (q_E y (some (.int r)) M1) 0 0 (ly_A y) :=
  q_met (by decide) rfl hJ rfl rfl rfl (fun x K hQ => bX0_heard_0 l K hy (z := (r, M1)) hQ ho1 hF)
-- ===== X0_reckoned (LTwoCards$Quarrel;I)I
theorem jd_X0_reckoned : yX0_reckoned.cls = RX0 ∧ yX0_reckoned.cls ≠ "java/lang/invoke/MethodHandle" ∧ yX0_reckoned.cls ≠ "java/lang/invoke/VarHandle" ∧ (parseMethodDescriptor yX0_reckoned.desc).map (fun d => d.parameters.length) = some 2 := by decide +kernel
abbrev wqX0_reckoned : List Cond := .code yX0_reckoned cX0_reckoned 9 (some .int) :: wsL_law
abbrev rmX0_reckoned : Room := { frames := 3, cells := 0, slots := 0, locals := 70 }
def fX0_reckoned_b126 (k15 : QM → Nat → Nat → Int32 → Int32 → Int32 → Option (Int32 × QM)) (M : QM) (o1 : Nat) (o3 : Nat) (x4 : Int32) (x5 : Int32) (x6 : Int32) : Option (Int32 × QM) := (k15 M o1 o3 x4 x5 (x6 + (1 : Int32)))
set_option maxRecDepth 100000 in
set_option maxHeartbeats 4000000 in
theorem bX0_reckoned_126 {x : Cx} {y : Ly} (l : Launch) (K : VK x l rmX0_reckoned y 9 cX0_reckoned RX0 wqX0_reckoned) (hy : y.2.2.2.2 = 0) {z : Int32 × QM} (hQ : VQ x y (some (.int z.1)) z.2 (some .int)) {k15 : QM → Nat → Nat → Int32 → Int32 → Int32 → Option (Int32 × QM)} (hk15 : ∀ {M : QM} {o1 : Nat} {o3 : Nat} {x4 : Int32} {x5 : Int32} {x6 : Int32}, kls o1 = 4 → kls o3 = 2 → k15 M o1 o3 x4 x5 x6 = some z → V x y 9 M 15 [(0, .ref (ly_o y 4)), (1, .ref (ly_o y o1)), (3, .ref (ly_o y o3)), (4, .int x4), (5, .int x5), (6, .int x6)] []) {M : QM} {o1 : Nat} {o3 : Nat} {x4 : Int32} {x5 : Int32} {x6 : Int32} (ho1 : kls o1 = 4) (ho3 : kls o3 = 2) (hF : fX0_reckoned_b126 k15 M o1 o3 x4 x5 x6 = some z) : V x y 9 M 126 [(0, .ref (ly_o y 4)), (1, .ref (ly_o y o1)), (3, .ref (ly_o y o3)), (4, .int x4), (5, .int x5), (6, .int x6)] [] := by
  unfold fX0_reckoned_b126 at hF
  refine v_iinc (pc := 126) (v1 := x6 + (1 : Int32)) (lv' := [(6, .int (x6 + (1 : Int32))), (0, .ref (ly_o y 4)), (1, .ref (ly_o y o1)), (3, .ref (ly_o y o3)), (4, .int x4), (5, .int x5)]) K dX0_reckoned_126 5 rfl rfl (by decide) rfl ?_
  refine v_goto (pc := 129) (tgt := 15) K dX0_reckoned_129 (by decide) ?_
  refine v_sub [1, 2, 3, 4, 5, 0] rfl ?_
  exact hk15 ho1 ho3 hF
def fX0_reckoned_b132 (M : QM) (x4 : Int32) (x5 : Int32) : Option (Int32 × QM) := (q_b (fX7_of M x4 x5 (0 : Int32) (0 : Int32) (0 : Int32)) fun r31 M32 => some (r31, M32))
set_option maxRecDepth 100000 in
set_option maxHeartbeats 4000000 in
theorem bX0_reckoned_132 {x : Cx} {y : Ly} (l : Launch) (K : VK x l rmX0_reckoned y 9 cX0_reckoned RX0 wqX0_reckoned) (hy : y.2.2.2.2 = 0) {z : Int32 × QM} (hQ : VQ x y (some (.int z.1)) z.2 (some .int)) {M : QM} {x4 : Int32} {x5 : Int32} (hF : fX0_reckoned_b132 M x4 x5 = some z) : V x y 9 M 132 [(4, .int x4), (5, .int x5)] [] := by
  unfold fX0_reckoned_b132 at hF
  refine v_iload (pc := 132) K dX0_reckoned_132 0 rfl ?_
  refine v_iload (pc := 134) K dX0_reckoned_134 1 rfl ?_
  refine v_iconst (pc := 136) (v := 0) K dX0_reckoned_136 rfl ?_
  refine v_iconst (pc := 137) (v := 0) K dX0_reckoned_137 rfl ?_
  refine v_iconst (pc := 138) (v := 0) K dX0_reckoned_138 rfl ?_
  obtain ⟨r31, M32, hc30, hF⟩ := q_bE hF
  refine v_callS (pc := 139) (As := [.int x4, .int x5, .int (0 : Int32), .int (0 : Int32), .int (0 : Int32)]) (rest := []) (st' := [.int r31]) (r := some (.int r31)) (M1 := M32) K (kX7_of l K.2.2.2.2.2.2.1 hy hc30) (jg_S jl_X0_67 jw_t_X7_of jw_n_X7 jw_c_X7_of) rfl rfl rfl jd_X7_of ⟨Nat.le_of_ble_eq_true rfl, Nat.le_of_ble_eq_true rfl⟩ rfl rfl (Nat.le_of_ble_eq_true rfl) dX0_reckoned_139 rfl ?_
  have hz := (Option.some.inj hF).symm
  subst hz
  exact v_iret (pc := 142) K hQ dX0_reckoned_142
def fX0_reckoned_b15 : Nat → QM → Nat → Nat → Int32 → Int32 → Int32 → Option (Int32 × QM)
  | 0, _, _, _, _, _, _ => none
  | q + 1, M, o1, o3, x4, x5, x6 => if (q_i M o1 7) ≤ x6 then (fX0_reckoned_b132 M x4 x5) else (q_b (fX4_moveAt M o1 x6) fun r6 M7 => (q_t (if (0 : Int32) < (x6 - (1 : Int32)) then (x6 - (1 : Int32)) else (0 : Int32)) fun v8 => if r6 < (8 : Int32) then if (x6 - x6 / (2 : Int32) * (2 : Int32)) ≠ (0 : Int32) then (q_bv (fX6_setHour M7 9 x4 x5 v8) fun M11 => (q_b (fX2_weight M11 o3 r6 9) fun r13 M14 => (q_b (fX0_changed M14 x4 r6 r13) fun r16 M17 => (fX0_reckoned_b126 (fun M o1 o3 x4 x5 x6 => fX0_reckoned_b15 q M o1 o3 x4 x5 x6) M17 o1 o3 r16 x5 x6)))) else (q_bv (fX6_setHour M7 8 x5 x4 v8) fun M20 => (q_b (fX2_weight M20 o3 r6 8) fun r22 M23 => (q_b (fX0_changed M23 x5 r6 r22) fun r25 M26 => (fX0_reckoned_b126 (fun M o1 o3 x4 x5 x6 => fX0_reckoned_b15 q M o1 o3 x4 x5 x6) M26 o1 o3 x4 r25 x6)))) else (fX0_reckoned_b126 (fun M o1 o3 x4 x5 x6 => fX0_reckoned_b15 q M o1 o3 x4 x5 x6) M7 o1 o3 x4 x5 x6)))
set_option maxRecDepth 100000 in
set_option maxHeartbeats 4000000 in
theorem bX0_reckoned_15 {x : Cx} {y : Ly} (l : Launch) (K : VK x l rmX0_reckoned y 9 cX0_reckoned RX0 wqX0_reckoned) (hy : y.2.2.2.2 = 0) {z : Int32 × QM} (hQ : VQ x y (some (.int z.1)) z.2 (some .int)) : ∀ (q : Nat) {M : QM} {o1 : Nat} {o3 : Nat} {x4 : Int32} {x5 : Int32} {x6 : Int32}, kls o1 = 4 → kls o3 = 2 →  fX0_reckoned_b15 q M o1 o3 x4 x5 x6 = some z → V x y 9 M 15 [(0, .ref (ly_o y 4)), (1, .ref (ly_o y o1)), (3, .ref (ly_o y o3)), (4, .int x4), (5, .int x5), (6, .int x6)] [] := by
  intro q
  induction q with
  | zero =>
    intro M o1 o3 x4 x5 x6 ho1 ho3 hF
    rw [fX0_reckoned_b15] at hF
    cases hF
  | succ q ih =>
    intro M o1 o3 x4 x5 x6 ho1 ho3 hF
    rw [fX0_reckoned_b15] at hF
    refine v_iload (pc := 15) K dX0_reckoned_15 5 rfl ?_
    refine v_aload_n (pc := 17) K dX0_reckoned_17 1 rfl ?_
    refine gX4_done (pc := 18) K hy ho1 jn_X4 (List.mem_cons_of_mem _ jl_X0_122) dX0_reckoned_18 ?_
    refine v_icmp_ge (pc := 21) (tgt := 132) K dX0_reckoned_21 (by decide) hF (fun c29 hF => ?_) (fun c29 hF => ?_)
    · refine v_sub [3, 4] rfl ?_
      exact bX0_reckoned_132 l K hy hQ hF
    · refine v_aload_n (pc := 24) K dX0_reckoned_24 1 rfl ?_
      refine v_iload (pc := 25) K dX0_reckoned_25 5 rfl ?_
      obtain ⟨r6, M7, hc5, hF⟩ := q_bE hF
      refine v_callV (pc := 27) (ci := 4) (As := [.int x6]) (rest := []) (st' := [.int r6]) (r := some (.int r6)) (M1 := M7) K (kX4_moveAt l K.2.2.2.2.2.2.1 hy ho1 hc5) (jg_V jl_X0_113 jw_i_X4_moveAt jw_s_X4_moveAt jw_n_X4 jw_c_X4_moveAt) rfl rfl rfl jd_X4_moveAt ⟨Nat.le_of_ble_eq_true rfl, Nat.le_of_ble_eq_true rfl⟩ rfl rfl (Nat.le_of_ble_eq_true rfl) ho1 (okc_0 hy (by decide)) rfl dX0_reckoned_27 rfl ?_
      refine v_istore (pc := 30) (lv' := [(7, .int r6), (0, .ref (ly_o y 4)), (1, .ref (ly_o y o1)), (3, .ref (ly_o y o3)), (4, .int x4), (5, .int x5), (6, .int x6)]) K 7 dX0_reckoned_30 (by decide) rfl ?_
      refine v_iconst (pc := 32) (v := 0) K dX0_reckoned_32 rfl ?_
      refine v_iload (pc := 33) K dX0_reckoned_33 6 rfl ?_
      refine v_iconst (pc := 35) (v := 1) K dX0_reckoned_35 rfl ?_
      refine v_isub (pc := 36) K dX0_reckoned_36 ?_
      refine v_mmax (pc := 37) K dX0_reckoned_37 (List.mem_cons_of_mem _ jl_X0_133) (List.mem_cons_of_mem _ jw_t_mmax) (List.mem_cons_of_mem _ jw_n_java_lang_Math) (List.mem_cons_of_mem _ jw_c_mmax) (Nat.le_of_ble_eq_true rfl) (Nat.le_of_ble_eq_true rfl) ?_
      refine v_nmI hF (fun v8 hF => ?_)
      refine v_istore (pc := 40) (lv' := [(8, .int v8), (7, .int r6), (0, .ref (ly_o y 4)), (1, .ref (ly_o y o1)), (3, .ref (ly_o y o3)), (4, .int x4), (5, .int x5), (6, .int x6)]) K 8 dX0_reckoned_40 (by decide) rfl ?_
      refine v_iload (pc := 42) K dX0_reckoned_42 1 rfl ?_
      refine v_bipush (pc := 44) (v := 8) K dX0_reckoned_44 rfl ?_
      refine v_icmp_lt (pc := 46) (tgt := 52) K dX0_reckoned_46 (by decide) hF (fun c28 hF => ?_) (fun c28 hF => ?_)
      · refine v_iload (pc := 52) K dX0_reckoned_52 7 rfl ?_
        refine v_iconst (pc := 54) (v := 2) K dX0_reckoned_54 rfl ?_
        refine v_irem (pc := 55) K dX0_reckoned_55 (by decide) ?_
        refine v_if_ne (pc := 56) (tgt := 94) K dX0_reckoned_56 (by decide) hF (fun c27 hF => ?_) (fun c27 hF => ?_)
        · refine v_aload_n (pc := 94) K dX0_reckoned_94 2 rfl ?_
          refine gX0_ofSecond (pc := 95) K hy (by decide) jn_X0 (List.mem_cons_of_mem _ jl_X0_18) dX0_reckoned_95 ?_
          refine v_iload (pc := 98) K dX0_reckoned_98 5 rfl ?_
          refine v_iload (pc := 100) K dX0_reckoned_100 6 rfl ?_
          refine v_iload (pc := 102) K dX0_reckoned_102 0 rfl ?_
          obtain ⟨M11, hc9, hF⟩ := q_bvE hF
          refine v_callV (pc := 104) (ci := 6) (As := [.int x4, .int x5, .int v8]) (rest := []) (st' := []) (r := none) (M1 := M11) K (kX6_setHour l K.2.2.2.2.2.2.1 hy (by decide) hc9) (jg_V jl_X0_59 jw_i_X6_setHour jw_s_X6_setHour jw_n_X6 jw_c_X6_setHour) rfl rfl rfl jd_X6_setHour ⟨Nat.le_of_ble_eq_true rfl, Nat.le_of_ble_eq_true rfl⟩ rfl rfl (Nat.le_of_ble_eq_true rfl) (by decide) (okc_0 hy (by decide)) rfl dX0_reckoned_104 rfl ?_
          refine v_iload (pc := 107) K dX0_reckoned_107 5 rfl ?_
          refine v_iload (pc := 109) K dX0_reckoned_109 1 rfl ?_
          refine v_aload_n (pc := 111) K dX0_reckoned_111 4 rfl ?_
          refine v_iload (pc := 112) K dX0_reckoned_112 1 rfl ?_
          refine v_aload_n (pc := 114) K dX0_reckoned_114 2 rfl ?_
          refine gX0_ofSecond (pc := 115) K hy (by decide) jn_X0 (List.mem_cons_of_mem _ jl_X0_18) dX0_reckoned_115 ?_
          obtain ⟨r13, M14, hc12, hF⟩ := q_bE hF
          refine v_callV (pc := 118) (ci := 2) (As := [.int r6, .ref (ly_o y 9)]) (rest := [.int r6, .int x4]) (st' := [.int r13, .int r6, .int x4]) (r := some (.int r13)) (M1 := M14) K (kX2_weight l K.2.2.2.2.2.2.1 hy ho3 (by decide) hc12) (jg_V jl_X0_63 jw_i_X2_weight jw_s_X2_weight jw_n_X2 jw_c_X2_weight) rfl rfl rfl jd_X2_weight ⟨Nat.le_of_ble_eq_true rfl, Nat.le_of_ble_eq_true rfl⟩ rfl rfl (Nat.le_of_ble_eq_true rfl) ho3 (okc_0 hy (by decide)) rfl dX0_reckoned_118 rfl ?_
          obtain ⟨r16, M17, hc15, hF⟩ := q_bE hF
          refine v_callS (pc := 121) (As := [.int x4, .int r6, .int r13]) (rest := []) (st' := [.int r16]) (r := some (.int r16)) (M1 := M17) K (kX0_changed l K.2.2.2.2.2.2.1 hy hc15) (jg_S jl_X0_104 jw_t_X0_changed jw_n_X0 jw_c_X0_changed) rfl rfl rfl jd_X0_changed ⟨Nat.le_of_ble_eq_true rfl, Nat.le_of_ble_eq_true rfl⟩ rfl rfl (Nat.le_of_ble_eq_true rfl) dX0_reckoned_121 rfl ?_
          refine v_istore (pc := 124) (lv' := [(4, .int r16), (8, .int v8), (7, .int r6), (0, .ref (ly_o y 4)), (1, .ref (ly_o y o1)), (3, .ref (ly_o y o3)), (5, .int x5), (6, .int x6)]) K 4 dX0_reckoned_124 (by decide) rfl ?_
          refine v_sub [3, 4, 5, 0, 6, 7] rfl ?_
          exact bX0_reckoned_126 l K hy hQ ih ho1 ho3 hF
        · refine v_aload_n (pc := 59) K dX0_reckoned_59 2 rfl ?_
          refine gX0_ofFirst (pc := 60) K hy (by decide) jn_X0 (List.mem_cons_of_mem _ jl_X0_12) dX0_reckoned_60 ?_
          refine v_iload (pc := 63) K dX0_reckoned_63 6 rfl ?_
          refine v_iload (pc := 65) K dX0_reckoned_65 5 rfl ?_
          refine v_iload (pc := 67) K dX0_reckoned_67 0 rfl ?_
          obtain ⟨M20, hc18, hF⟩ := q_bvE hF
          refine v_callV (pc := 69) (ci := 6) (As := [.int x5, .int x4, .int v8]) (rest := []) (st' := []) (r := none) (M1 := M20) K (kX6_setHour l K.2.2.2.2.2.2.1 hy (by decide) hc18) (jg_V jl_X0_59 jw_i_X6_setHour jw_s_X6_setHour jw_n_X6 jw_c_X6_setHour) rfl rfl rfl jd_X6_setHour ⟨Nat.le_of_ble_eq_true rfl, Nat.le_of_ble_eq_true rfl⟩ rfl rfl (Nat.le_of_ble_eq_true rfl) (by decide) (okc_0 hy (by decide)) rfl dX0_reckoned_69 rfl ?_
          refine v_iload (pc := 72) K dX0_reckoned_72 6 rfl ?_
          refine v_iload (pc := 74) K dX0_reckoned_74 1 rfl ?_
          refine v_aload_n (pc := 76) K dX0_reckoned_76 4 rfl ?_
          refine v_iload (pc := 77) K dX0_reckoned_77 1 rfl ?_
          refine v_aload_n (pc := 79) K dX0_reckoned_79 2 rfl ?_
          refine gX0_ofFirst (pc := 80) K hy (by decide) jn_X0 (List.mem_cons_of_mem _ jl_X0_12) dX0_reckoned_80 ?_
          obtain ⟨r22, M23, hc21, hF⟩ := q_bE hF
          refine v_callV (pc := 83) (ci := 2) (As := [.int r6, .ref (ly_o y 8)]) (rest := [.int r6, .int x5]) (st' := [.int r22, .int r6, .int x5]) (r := some (.int r22)) (M1 := M23) K (kX2_weight l K.2.2.2.2.2.2.1 hy ho3 (by decide) hc21) (jg_V jl_X0_63 jw_i_X2_weight jw_s_X2_weight jw_n_X2 jw_c_X2_weight) rfl rfl rfl jd_X2_weight ⟨Nat.le_of_ble_eq_true rfl, Nat.le_of_ble_eq_true rfl⟩ rfl rfl (Nat.le_of_ble_eq_true rfl) ho3 (okc_0 hy (by decide)) rfl dX0_reckoned_83 rfl ?_
          obtain ⟨r25, M26, hc24, hF⟩ := q_bE hF
          refine v_callS (pc := 86) (As := [.int x5, .int r6, .int r22]) (rest := []) (st' := [.int r25]) (r := some (.int r25)) (M1 := M26) K (kX0_changed l K.2.2.2.2.2.2.1 hy hc24) (jg_S jl_X0_104 jw_t_X0_changed jw_n_X0 jw_c_X0_changed) rfl rfl rfl jd_X0_changed ⟨Nat.le_of_ble_eq_true rfl, Nat.le_of_ble_eq_true rfl⟩ rfl rfl (Nat.le_of_ble_eq_true rfl) dX0_reckoned_86 rfl ?_
          refine v_istore (pc := 89) (lv' := [(5, .int r25), (8, .int v8), (7, .int r6), (0, .ref (ly_o y 4)), (1, .ref (ly_o y o1)), (3, .ref (ly_o y o3)), (4, .int x4), (6, .int x6)]) K 5 dX0_reckoned_89 (by decide) rfl ?_
          refine v_goto (pc := 91) (tgt := 126) K dX0_reckoned_91 (by decide) ?_
          refine v_sub [3, 4, 5, 6, 0, 7] rfl ?_
          exact bX0_reckoned_126 l K hy hQ ih ho1 ho3 hF
      · refine v_goto (pc := 49) (tgt := 126) K dX0_reckoned_49 (by decide) ?_
        refine v_sub [2, 3, 4, 5, 6, 7] rfl ?_
        exact bX0_reckoned_126 l K hy hQ ih ho1 ho3 hF
def fX0_reckoned (M : QM) (o1 : Nat) (x2 : Int32) : Option (Int32 × QM) := (q_b (fX0_codeOf M x2) fun r2 M3 => (if kls r2 = 2 then (fX0_reckoned_b15 q_F M3 o1 r2 (0 : Int32) (0 : Int32) (0 : Int32)) else none))
set_option maxRecDepth 100000 in
set_option maxHeartbeats 4000000 in
theorem bX0_reckoned_0 {x : Cx} {y : Ly} (l : Launch) (K : VK x l rmX0_reckoned y 9 cX0_reckoned RX0 wqX0_reckoned) (hy : y.2.2.2.2 = 0) {z : Int32 × QM} (hQ : VQ x y (some (.int z.1)) z.2 (some .int)) {M : QM} {o1 : Nat} {x2 : Int32} (ho1 : kls o1 = 4) (hF : fX0_reckoned M o1 x2 = some z) : V x y 9 M 0 [(0, .ref (ly_o y 4)), (1, .ref (ly_o y o1)), (2, .int x2)] [] := by
  unfold fX0_reckoned at hF
  refine v_aload_n (pc := 0) K dX0_reckoned_0 0 rfl ?_
  refine v_iload_n (pc := 1) K dX0_reckoned_1 2 rfl ?_
  obtain ⟨r2, M3, hc1, hF⟩ := q_bE hF
  obtain ⟨ho4, hF⟩ := q_kE hF
  refine v_callV (pc := 2) (ci := 0) (As := [.int x2]) (rest := []) (st' := [.ref (ly_o y r2)]) (r := some (.ref (ly_o y r2))) (M1 := M3) K (kX0_codeOf l K.2.2.2.2.2.2.1 hy hc1) (jg_V jl_X0_90 jw_i_X0_codeOf jw_s_X0_codeOf jw_n_X0 jw_c_X0_codeOf) rfl rfl rfl jd_X0_codeOf ⟨Nat.le_of_ble_eq_true rfl, Nat.le_of_ble_eq_true rfl⟩ rfl rfl (Nat.le_of_ble_eq_true rfl) (by decide) (okc_0 hy (by decide)) rfl dX0_reckoned_2 rfl ?_
  refine v_astore_n (pc := 5) (lv' := [(3, .ref (ly_o y r2)), (0, .ref (ly_o y 4)), (1, .ref (ly_o y o1)), (2, .int x2)]) K dX0_reckoned_5 3 rfl (by decide) rfl ?_
  refine v_iconst (pc := 6) (v := 0) K dX0_reckoned_6 rfl ?_
  refine v_istore (pc := 7) (lv' := [(4, .int (0 : Int32)), (3, .ref (ly_o y r2)), (0, .ref (ly_o y 4)), (1, .ref (ly_o y o1)), (2, .int x2)]) K 4 dX0_reckoned_7 (by decide) rfl ?_
  refine v_iconst (pc := 9) (v := 0) K dX0_reckoned_9 rfl ?_
  refine v_istore (pc := 10) (lv' := [(5, .int (0 : Int32)), (4, .int (0 : Int32)), (3, .ref (ly_o y r2)), (0, .ref (ly_o y 4)), (1, .ref (ly_o y o1)), (2, .int x2)]) K 5 dX0_reckoned_10 (by decide) rfl ?_
  refine v_iconst (pc := 12) (v := 0) K dX0_reckoned_12 rfl ?_
  refine v_istore (pc := 13) (lv' := [(6, .int (0 : Int32)), (5, .int (0 : Int32)), (4, .int (0 : Int32)), (3, .ref (ly_o y r2)), (0, .ref (ly_o y 4)), (1, .ref (ly_o y o1)), (2, .int x2)]) K 6 dX0_reckoned_13 (by decide) rfl ?_
  refine v_sub [4, 5, 3, 2, 1, 0] rfl ?_
  exact bX0_reckoned_15 l K hy hQ q_F ho1 ho4 hF
set_option maxRecDepth 100000 in
set_option maxHeartbeats 4000000 in
theorem kX0_reckoned (l : Launch) {y : Ly} (hJ : ly_J y) (hy : y.2.2.2.2 = 0) {M M1 : QM} {r : Int32} {o1 : Nat} {x2 : Int32} (ho1 : kls o1 = 4) (hF : fX0_reckoned M o1 x2 = some (r, M1)) : Met l yX0_reckoned wqX0_reckoned rmX0_reckoned (q_P y [.ref (ly_o y 4), .ref (ly_o y o1), .int x2] M) (q_E y (some (.int r)) M1) 0 0 (ly_A y) :=
  q_met (by decide) rfl hJ rfl rfl rfl (fun x K hQ => bX0_reckoned_0 l K hy (z := (r, M1)) hQ ho1 hF)
