-- ===== X10_reach (IJI)V
theorem jd_X10_reach : yX10_reach.cls = RX10 ∧ yX10_reach.cls ≠ "java/lang/invoke/MethodHandle" ∧ yX10_reach.cls ≠ "java/lang/invoke/VarHandle" ∧ (parseMethodDescriptor yX10_reach.desc).map (fun d => d.parameters.length) = some 3 := by decide +kernel
abbrev wqX10_reach : List Cond := .code yX10_reach cX10_reach 5 none :: wsL_law
abbrev rmX10_reach : Room := { frames := 0, cells := 0, slots := 0, locals := 0 }
def fX10_reach_b30 (M : QM) (x1 : Int32) (x2 : Int64) : Option QM := (if q_in x1 20 then (if q_in x1 20 then (q_t (p_l M 6 4 x1.toNatClampNeg ((q_l M 6 4 x1.toNatClampNeg) + x2)) fun M9 => some M9) else none) else none)
set_option maxRecDepth 100000 in
set_option maxHeartbeats 4000000 in
theorem bX10_reach_30 {x : Cx} {y : Ly} (l : Launch) (K : VK x l rmX10_reach y 5 cX10_reach RX10 wqX10_reach) (hy : y.2.2.2.2 = 0) {z : QM} (hQ : VQ x y none z none) {M : QM} {x1 : Int32} {x2 : Int64} (hF : fX10_reach_b30 M x1 x2 = some z) : V x y 5 M 30 [(0, .ref (ly_o y 6)), (1, .int x1), (2, .long x2)] [] := by
  unfold fX10_reach_b30 at hF
  refine v_aload_n (pc := 30) K dX10_reach_30 0 rfl ?_
  refine gX10_waysTo (pc := 31) K hy (by decide) jn_X10 (List.mem_cons_of_mem _ jl_X10_25) dX10_reach_31 ?_
  refine v_iload_n (pc := 34) K dX10_reach_34 1 rfl ?_
  refine v_dup2 (pc := 35) K dX10_reach_35 rfl rfl ?_
  refine iX10_waysTo (pc := 36) K hy (by decide) hF dX10_reach_36 (fun hi7 hF => ?_)
  refine v_lload_n (pc := 37) K dX10_reach_37 2 rfl ?_
  refine v_ladd (pc := 38) K dX10_reach_38 ?_
  refine uX10_waysTo (pc := 39) K hy (by decide) hF dX10_reach_39 (fun hi8 hF => ?_)
  refine v_nmM hF (fun M9 hF => ?_)
  have hz := (Option.some.inj hF).symm
  subst hz
  exact v_vret (pc := 40) K hQ dX10_reach_40
def fX10_reach (M : QM) (x1 : Int32) (x2 : Int64) (x4 : Int32) : Option QM := if x1 < (0 : Int32) then some M else if x1 < (20 : Int32) then (if q_in x1 20 then if (lg_cmp (q_l M 6 4 x1.toNatClampNeg) (0 : Int64)) ≠ (0 : Int32) then (fX10_reach_b30 M x1 x2) else (if q_in x1 20 then (q_t (p_a M 6 5 x1.toNatClampNeg x4) fun M3 => (fX10_reach_b30 M3 x1 x2)) else none) else none) else some M
set_option maxRecDepth 100000 in
set_option maxHeartbeats 4000000 in
theorem bX10_reach_0 {x : Cx} {y : Ly} (l : Launch) (K : VK x l rmX10_reach y 5 cX10_reach RX10 wqX10_reach) (hy : y.2.2.2.2 = 0) {z : QM} (hQ : VQ x y none z none) {M : QM} {x1 : Int32} {x2 : Int64} {x4 : Int32} (hF : fX10_reach M x1 x2 x4 = some z) : V x y 5 M 0 [(0, .ref (ly_o y 6)), (1, .int x1), (2, .long x2), (4, .int x4)] [] := by
  unfold fX10_reach at hF
  refine v_iload_n (pc := 0) K dX10_reach_0 1 rfl ?_
  refine v_if_lt (pc := 1) (tgt := 10) K dX10_reach_1 (by decide) hF (fun c6 hF => ?_) (fun c6 hF => ?_)
  · have hz := (Option.some.inj hF).symm
    subst hz
    exact v_vret (pc := 10) K hQ dX10_reach_10
  · refine v_iload_n (pc := 4) K dX10_reach_4 1 rfl ?_
    refine v_bipush (pc := 5) (v := 20) K dX10_reach_5 rfl ?_
    refine v_icmp_lt (pc := 7) (tgt := 11) K dX10_reach_7 (by decide) hF (fun c5 hF => ?_) (fun c5 hF => ?_)
    · refine v_aload_n (pc := 11) K dX10_reach_11 0 rfl ?_
      refine gX10_waysTo (pc := 12) K hy (by decide) jn_X10 (List.mem_cons_of_mem _ jl_X10_25) dX10_reach_12 ?_
      refine v_iload_n (pc := 15) K dX10_reach_15 1 rfl ?_
      refine iX10_waysTo (pc := 16) K hy (by decide) hF dX10_reach_16 (fun hi1 hF => ?_)
      refine v_lconst (pc := 17) (v := 0) K dX10_reach_17 rfl ?_
      refine v_lcmp (pc := 18) K dX10_reach_18 ?_
      refine v_if_ne (pc := 19) (tgt := 30) K dX10_reach_19 (by decide) hF (fun c4 hF => ?_) (fun c4 hF => ?_)
      · refine v_sub [0, 1, 2] rfl ?_
        exact bX10_reach_30 l K hy hQ hF
      · refine v_aload_n (pc := 22) K dX10_reach_22 0 rfl ?_
        refine gX10_firstTo (pc := 23) K hy (by decide) jn_X10 (List.mem_cons_of_mem _ jl_X10_28) dX10_reach_23 ?_
        refine v_iload_n (pc := 26) K dX10_reach_26 1 rfl ?_
        refine v_iload (pc := 27) K dX10_reach_27 3 rfl ?_
        refine uX10_firstTo (pc := 29) K hy (by decide) hF dX10_reach_29 (fun hi2 hF => ?_)
        refine v_nmM hF (fun M3 hF => ?_)
        refine v_sub [0, 1, 2] rfl ?_
        exact bX10_reach_30 l K hy hQ hF
    · have hz := (Option.some.inj hF).symm
      subst hz
      exact v_vret (pc := 10) K hQ dX10_reach_10
set_option maxRecDepth 100000 in
set_option maxHeartbeats 4000000 in
theorem kX10_reach (l : Launch) {y : Ly} (hJ : ly_J y) (hy : y.2.2.2.2 = 0) {M M1 : QM} {x1 : Int32} {x2 : Int64} {x4 : Int32} (hF : fX10_reach M x1 x2 x4 = some M1) : Met l yX10_reach wqX10_reach rmX10_reach (q_P y [.ref (ly_o y 6), .int x1, .long x2, .int x4] M) (q_E y none M1) 0 0 (ly_A y) :=
  q_met (by decide) rfl hJ rfl rfl rfl (fun x K hQ => bX10_reach_0 l K hy (z := M1) hQ  hF)
-- ===== X10_arrive (IJI)V
theorem jd_X10_arrive : yX10_arrive.cls = RX10 ∧ yX10_arrive.cls ≠ "java/lang/invoke/MethodHandle" ∧ yX10_arrive.cls ≠ "java/lang/invoke/VarHandle" ∧ (parseMethodDescriptor yX10_arrive.desc).map (fun d => d.parameters.length) = some 3 := by decide +kernel
abbrev wqX10_arrive : List Cond := .code yX10_arrive cX10_arrive 6 none :: wsL_law
abbrev rmX10_arrive : Room := { frames := 2, cells := 0, slots := 0, locals := 40 }
def fX10_arrive_b93 (M : QM) (x2 : Int64) (x5 : Int32) : Option QM := (if q_in x5 4096 then (if q_in ((q_a M 6 3 x5.toNatClampNeg) &&& (4095 : Int32)) 4096 then (q_t (q_l M 6 1 ((q_a M 6 3 x5.toNatClampNeg) &&& (4095 : Int32)).toNatClampNeg) fun v18 => (if q_in ((q_a M 6 3 x5.toNatClampNeg) &&& (4095 : Int32)) 4096 then (q_t (p_l M 6 1 ((q_a M 6 3 x5.toNatClampNeg) &&& (4095 : Int32)).toNatClampNeg (v18 + x2)) fun M20 => some M20) else none)) else none) else none)
set_option maxRecDepth 100000 in
set_option maxHeartbeats 4000000 in
theorem bX10_arrive_93 {x : Cx} {y : Ly} (l : Launch) (K : VK x l rmX10_arrive y 6 cX10_arrive RX10 wqX10_arrive) (hy : y.2.2.2.2 = 0) {z : QM} (hQ : VQ x y none z none) {M : QM} {x2 : Int64} {x5 : Int32} (hF : fX10_arrive_b93 M x2 x5 = some z) : V x y 6 M 93 [(0, .ref (ly_o y 6)), (2, .long x2), (5, .int x5)] [] := by
  unfold fX10_arrive_b93 at hF
  refine v_aload_n (pc := 93) K dX10_arrive_93 0 rfl ?_
  refine gX10_counts (pc := 94) K hy (by decide) jn_X10 (List.mem_cons_of_mem _ jl_X10_15) dX10_arrive_94 ?_
  refine v_aload_n (pc := 97) K dX10_arrive_97 0 rfl ?_
  refine gX10_places (pc := 98) K hy (by decide) jn_X10 (List.mem_cons_of_mem _ jl_X10_22) dX10_arrive_98 ?_
  refine v_iload (pc := 101) K dX10_arrive_101 2 rfl ?_
  refine iX10_places (pc := 103) K hy (by decide) hF dX10_arrive_103 (fun hi16 hF => ?_)
  refine v_sipush (pc := 104) (v := 4095) K dX10_arrive_104 rfl ?_
  refine v_iand (pc := 107) K dX10_arrive_107 ?_
  refine v_dup2 (pc := 108) K dX10_arrive_108 rfl rfl ?_
  refine iX10_counts (pc := 109) K hy (by decide) hF dX10_arrive_109 (fun hi17 hF => ?_)
  refine v_nmL hF (fun v18 hF => ?_)
  refine v_lload_n (pc := 110) K dX10_arrive_110 1 rfl ?_
  refine v_ladd (pc := 111) K dX10_arrive_111 ?_
  refine uX10_counts (pc := 112) K hy (by decide) hF dX10_arrive_112 (fun hi19 hF => ?_)
  refine v_nmM hF (fun M20 hF => ?_)
  have hz := (Option.some.inj hF).symm
  subst hz
  exact v_vret (pc := 113) K hQ dX10_arrive_113
def fX10_arrive (M : QM) (x1 : Int32) (x2 : Int64) (x4 : Int32) : Option QM := (q_b (fX7_spot M x1) fun r2 M3 => (if q_in r2 4096 then if ((q_a M3 6 3 r2.toNatClampNeg) >>> ((12 : Int32) &&& (31 : Int32))) = (q_i M3 6 7) then (fX10_arrive_b93 M3 x2 r2) else if (4096 : Int32) ≤ (q_i M3 6 6) then (fX10_arrive_b93 M3 x2 r2) else (if q_in r2 4096 then (q_t (p_a M3 6 3 r2.toNatClampNeg (((q_i M3 6 7) <<< ((12 : Int32) &&& (31 : Int32))) ||| (q_i M3 6 6))) fun M6 => (if q_in (q_i M6 6 6) 4096 then (q_t (p_a M6 6 0 (q_i M6 6 6).toNatClampNeg x1) fun M8 => (if q_in (q_i M8 6 6) 4096 then (q_t (p_l M8 6 1 (q_i M8 6 6).toNatClampNeg (0 : Int64)) fun M10 => (if q_in (q_i M10 6 6) 4096 then (q_t (p_a M10 6 2 (q_i M10 6 6).toNatClampNeg x4) fun M12 => (q_t (p_i M12 6 6 ((q_i M12 6 6) + (1 : Int32))) fun M13 => (fX10_arrive_b93 M13 x2 r2))) else none)) else none)) else none)) else none) else none))
set_option maxRecDepth 100000 in
set_option maxHeartbeats 4000000 in
theorem bX10_arrive_0 {x : Cx} {y : Ly} (l : Launch) (K : VK x l rmX10_arrive y 6 cX10_arrive RX10 wqX10_arrive) (hy : y.2.2.2.2 = 0) {z : QM} (hQ : VQ x y none z none) {M : QM} {x1 : Int32} {x2 : Int64} {x4 : Int32} (hF : fX10_arrive M x1 x2 x4 = some z) : V x y 6 M 0 [(0, .ref (ly_o y 6)), (1, .int x1), (2, .long x2), (4, .int x4)] [] := by
  unfold fX10_arrive at hF
  refine v_iload_n (pc := 0) K dX10_arrive_0 1 rfl ?_
  obtain ⟨r2, M3, hc1, hF⟩ := q_bE hF
  refine v_callS (pc := 1) (As := [.int x1]) (rest := []) (st' := [.int r2]) (r := some (.int r2)) (M1 := M3) K (kX7_spot l K.2.2.2.2.2.2.1 hy hc1) (jg_S jl_X10_72 jw_t_X7_spot jw_n_X7 jw_c_X7_spot) rfl rfl rfl jd_X7_spot ⟨Nat.le_of_ble_eq_true rfl, Nat.le_of_ble_eq_true rfl⟩ rfl rfl (Nat.le_of_ble_eq_true rfl) dX10_arrive_1 rfl ?_
  refine v_istore (pc := 4) (lv' := [(5, .int r2), (0, .ref (ly_o y 6)), (1, .int x1), (2, .long x2), (4, .int x4)]) K 5 dX10_arrive_4 (by decide) rfl ?_
  refine v_aload_n (pc := 6) K dX10_arrive_6 1 rfl ?_
  refine gX10_places (pc := 7) K hy (by decide) jn_X10 (List.mem_cons_of_mem _ jl_X10_22) dX10_arrive_7 ?_
  refine v_iload (pc := 10) K dX10_arrive_10 0 rfl ?_
  refine iX10_places (pc := 12) K hy (by decide) hF dX10_arrive_12 (fun hi4 hF => ?_)
  refine v_bipush (pc := 13) (v := 12) K dX10_arrive_13 rfl ?_
  refine v_ishr (pc := 15) K dX10_arrive_15 ?_
  refine v_aload_n (pc := 16) K dX10_arrive_16 1 rfl ?_
  refine gX10_mark (pc := 17) K hy (by decide) jn_X10 (List.mem_cons_of_mem _ jl_X10_31) dX10_arrive_17 ?_
  refine v_icmp_eq (pc := 20) (tgt := 93) K dX10_arrive_20 (by decide) hF (fun c15 hF => ?_) (fun c15 hF => ?_)
  · refine v_sub [1, 3, 0] rfl ?_
    exact bX10_arrive_93 l K hy hQ hF
  · refine v_aload_n (pc := 23) K dX10_arrive_23 1 rfl ?_
    refine gX10_size (pc := 24) K hy (by decide) jn_X10 (List.mem_cons_of_mem _ jl_X10_35) dX10_arrive_24 ?_
    refine v_sipush (pc := 27) (v := 4096) K dX10_arrive_27 rfl ?_
    refine v_icmp_ge (pc := 30) (tgt := 93) K dX10_arrive_30 (by decide) hF (fun c14 hF => ?_) (fun c14 hF => ?_)
    · refine v_sub [1, 3, 0] rfl ?_
      exact bX10_arrive_93 l K hy hQ hF
    · refine v_aload_n (pc := 33) K dX10_arrive_33 1 rfl ?_
      refine gX10_places (pc := 34) K hy (by decide) jn_X10 (List.mem_cons_of_mem _ jl_X10_22) dX10_arrive_34 ?_
      refine v_iload (pc := 37) K dX10_arrive_37 0 rfl ?_
      refine v_aload_n (pc := 39) K dX10_arrive_39 1 rfl ?_
      refine gX10_mark (pc := 40) K hy (by decide) jn_X10 (List.mem_cons_of_mem _ jl_X10_31) dX10_arrive_40 ?_
      refine v_bipush (pc := 43) (v := 12) K dX10_arrive_43 rfl ?_
      refine v_ishl (pc := 45) K dX10_arrive_45 ?_
      refine v_aload_n (pc := 46) K dX10_arrive_46 1 rfl ?_
      refine gX10_size (pc := 47) K hy (by decide) jn_X10 (List.mem_cons_of_mem _ jl_X10_35) dX10_arrive_47 ?_
      refine v_ior (pc := 50) K dX10_arrive_50 ?_
      refine uX10_places (pc := 51) K hy (by decide) hF dX10_arrive_51 (fun hi5 hF => ?_)
      refine v_nmM hF (fun M6 hF => ?_)
      refine v_aload_n (pc := 52) K dX10_arrive_52 1 rfl ?_
      refine gX10_states (pc := 53) K hy (by decide) jn_X10 (List.mem_cons_of_mem _ jl_X10_9) dX10_arrive_53 ?_
      refine v_aload_n (pc := 56) K dX10_arrive_56 1 rfl ?_
      refine gX10_size (pc := 57) K hy (by decide) jn_X10 (List.mem_cons_of_mem _ jl_X10_35) dX10_arrive_57 ?_
      refine v_iload_n (pc := 60) K dX10_arrive_60 2 rfl ?_
      refine uX10_states (pc := 61) K hy (by decide) hF dX10_arrive_61 (fun hi7 hF => ?_)
      refine v_nmM hF (fun M8 hF => ?_)
      refine v_aload_n (pc := 62) K dX10_arrive_62 1 rfl ?_
      refine gX10_counts (pc := 63) K hy (by decide) jn_X10 (List.mem_cons_of_mem _ jl_X10_15) dX10_arrive_63 ?_
      refine v_aload_n (pc := 66) K dX10_arrive_66 1 rfl ?_
      refine gX10_size (pc := 67) K hy (by decide) jn_X10 (List.mem_cons_of_mem _ jl_X10_35) dX10_arrive_67 ?_
      refine v_lconst (pc := 70) (v := 0) K dX10_arrive_70 rfl ?_
      refine uX10_counts (pc := 71) K hy (by decide) hF dX10_arrive_71 (fun hi9 hF => ?_)
      refine v_nmM hF (fun M10 hF => ?_)
      refine v_aload_n (pc := 72) K dX10_arrive_72 1 rfl ?_
      refine gX10_origins (pc := 73) K hy (by decide) jn_X10 (List.mem_cons_of_mem _ jl_X10_19) dX10_arrive_73 ?_
      refine v_aload_n (pc := 76) K dX10_arrive_76 1 rfl ?_
      refine gX10_size (pc := 77) K hy (by decide) jn_X10 (List.mem_cons_of_mem _ jl_X10_35) dX10_arrive_77 ?_
      refine v_iload (pc := 80) K dX10_arrive_80 4 rfl ?_
      refine uX10_origins (pc := 82) K hy (by decide) hF dX10_arrive_82 (fun hi11 hF => ?_)
      refine v_nmM hF (fun M12 hF => ?_)
      refine v_aload_n (pc := 83) K dX10_arrive_83 1 rfl ?_
      refine v_dup (pc := 84) K dX10_arrive_84 rfl ?_
      refine gX10_size (pc := 85) K hy (by decide) jn_X10 (List.mem_cons_of_mem _ jl_X10_35) dX10_arrive_85 ?_
      refine v_iconst (pc := 88) (v := 1) K dX10_arrive_88 rfl ?_
      refine v_iadd (pc := 89) K dX10_arrive_89 ?_
      refine pX10_size (pc := 90) K hy (by decide) jn_X10 (List.mem_cons_of_mem _ jl_X10_35) dX10_arrive_90 ?_
      refine v_nmM hF (fun M13 hF => ?_)
      refine v_sub [1, 3, 0] rfl ?_
      exact bX10_arrive_93 l K hy hQ hF
set_option maxRecDepth 100000 in
set_option maxHeartbeats 4000000 in
theorem kX10_arrive (l : Launch) {y : Ly} (hJ : ly_J y) (hy : y.2.2.2.2 = 0) {M M1 : QM} {x1 : Int32} {x2 : Int64} {x4 : Int32} (hF : fX10_arrive M x1 x2 x4 = some M1) : Met l yX10_arrive wqX10_arrive rmX10_arrive (q_P y [.ref (ly_o y 6), .int x1, .long x2, .int x4] M) (q_E y none M1) 0 0 (ly_A y) :=
  q_met (by decide) rfl hJ rfl rfl rfl (fun x K hQ => bX10_arrive_0 l K hy (z := M1) hQ  hF)
-- ===== X10_spread (LTwoCards$Affair;I)V
theorem jd_X10_spread : yX10_spread.cls = RX10 ∧ yX10_spread.cls ≠ "java/lang/invoke/MethodHandle" ∧ yX10_spread.cls ≠ "java/lang/invoke/VarHandle" ∧ (parseMethodDescriptor yX10_spread.desc).map (fun d => d.parameters.length) = some 2 := by decide +kernel
abbrev wqX10_spread : List Cond := .code yX10_spread cX10_spread 7 none :: wsL_law
abbrev rmX10_spread : Room := { frames := 5, cells := 0, slots := 0, locals := 129 }
def fX10_spread_b87 (k10 : QM → Int32 → Int32 → Int32 → Option QM) (M : QM) (x2 : Int32) (x3 : Int32) (x4 : Int32) : Option QM := (k10 M x2 x3 (x4 + (1 : Int32)))
set_option maxRecDepth 100000 in
set_option maxHeartbeats 4000000 in
theorem bX10_spread_87 {x : Cx} {y : Ly} (l : Launch) (K : VK x l rmX10_spread y 7 cX10_spread RX10 wqX10_spread) (hy : y.2.2.2.2 = 0) {z : QM} (hQ : VQ x y none z none) {k10 : QM → Int32 → Int32 → Int32 → Option QM} (hk10 : ∀ {M : QM} {x2 : Int32} {x3 : Int32} {x4 : Int32}, k10 M x2 x3 x4 = some z → V x y 7 M 10 [(0, .ref (ly_o y 6)), (1, .ref (ly_o y 4)), (2, .int x2), (3, .int x3), (4, .int x4)] []) {M : QM} {x2 : Int32} {x3 : Int32} {x4 : Int32} (hF : fX10_spread_b87 k10 M x2 x3 x4 = some z) : V x y 7 M 87 [(0, .ref (ly_o y 6)), (1, .ref (ly_o y 4)), (2, .int x2), (3, .int x3), (4, .int x4)] [] := by
  unfold fX10_spread_b87 at hF
  refine v_iinc (pc := 87) (v1 := x4 + (1 : Int32)) (lv' := [(4, .int (x4 + (1 : Int32))), (0, .ref (ly_o y 6)), (1, .ref (ly_o y 4)), (2, .int x2), (3, .int x3)]) K dX10_spread_87 4 rfl rfl (by decide) rfl ?_
  refine v_goto (pc := 90) (tgt := 10) K dX10_spread_90 (by decide) ?_
  refine v_sub [1, 2, 3, 4, 0] rfl ?_
  exact hk10 hF
def fX10_spread_b10 : Nat → QM → Int32 → Int32 → Int32 → Option QM
  | 0, _, _, _, _ => none
  | q + 1, M, x2, x3, x4 => if (11 : Int32) ≤ x4 then some M else (q_b (fX0_allows M x3 x4) fun r3 M4 => if r3 = (0 : Int32) then (fX10_spread_b87 (fun M x2 x3 x4 => fX10_spread_b10 q M x2 x3 x4) M4 x2 x3 x4) else (q_b (fX0_after M4 x3 x4 (1 : Int32)) fun r6 M7 => (q_b (fX7_ending M7 r6) fun r9 M10 => if r9 = (0 : Int32) then (if q_in x2 4096 then (q_bv (fX10_arrive M10 r6 (q_l M10 6 1 x2.toNatClampNeg) ((x2 <<< ((4 : Int32) &&& (31 : Int32))) ||| x4)) fun M14 => (fX10_spread_b87 (fun M x2 x3 x4 => fX10_spread_b10 q M x2 x3 x4) M14 x2 x3 x4)) else none) else (q_b (fX7_outcome M10 r6) fun r16 M17 => (if q_in x2 4096 then (q_bv (fX10_reach M17 r16 (q_l M17 6 1 x2.toNatClampNeg) ((x2 <<< ((4 : Int32) &&& (31 : Int32))) ||| x4)) fun M21 => (fX10_spread_b87 (fun M x2 x3 x4 => fX10_spread_b10 q M x2 x3 x4) M21 x2 x3 x4)) else none)))))
set_option maxRecDepth 100000 in
set_option maxHeartbeats 4000000 in
theorem bX10_spread_10 {x : Cx} {y : Ly} (l : Launch) (K : VK x l rmX10_spread y 7 cX10_spread RX10 wqX10_spread) (hy : y.2.2.2.2 = 0) {z : QM} (hQ : VQ x y none z none) : ∀ (q : Nat) {M : QM} {x2 : Int32} {x3 : Int32} {x4 : Int32},  fX10_spread_b10 q M x2 x3 x4 = some z → V x y 7 M 10 [(0, .ref (ly_o y 6)), (1, .ref (ly_o y 4)), (2, .int x2), (3, .int x3), (4, .int x4)] [] := by
  intro q
  induction q with
  | zero =>
    intro M x2 x3 x4  hF
    rw [fX10_spread_b10] at hF
    cases hF
  | succ q ih =>
    intro M x2 x3 x4  hF
    rw [fX10_spread_b10] at hF
    refine v_iload (pc := 10) K dX10_spread_10 4 rfl ?_
    refine v_bipush (pc := 12) (v := 11) K dX10_spread_12 rfl ?_
    refine v_icmp_ge (pc := 14) (tgt := 93) K dX10_spread_14 (by decide) hF (fun c24 hF => ?_) (fun c24 hF => ?_)
    · have hz := (Option.some.inj hF).symm
      subst hz
      exact v_vret (pc := 93) K hQ dX10_spread_93
    · refine v_aload_n (pc := 17) K dX10_spread_17 1 rfl ?_
      refine v_iload_n (pc := 18) K dX10_spread_18 3 rfl ?_
      refine v_iload (pc := 19) K dX10_spread_19 4 rfl ?_
      obtain ⟨r3, M4, hc2, hF⟩ := q_bE hF
      refine v_callV (pc := 21) (ci := 0) (As := [.int x3, .int x4]) (rest := []) (st' := [.int r3]) (r := some (.int r3)) (M1 := M4) K (kX0_allows l K.2.2.2.2.2.2.1 hy hc2) (jg_V jl_X10_62 jw_i_X0_allows jw_s_X0_allows jw_n_X0 jw_c_X0_allows) rfl rfl rfl jd_X0_allows ⟨Nat.le_of_ble_eq_true rfl, Nat.le_of_ble_eq_true rfl⟩ rfl rfl (Nat.le_of_ble_eq_true rfl) (by decide) (okc_0 hy (by decide)) rfl dX10_spread_21 rfl ?_
      refine v_if_eq (pc := 24) (tgt := 87) K dX10_spread_24 (by decide) hF (fun c23 hF => ?_) (fun c23 hF => ?_)
      · exact bX10_spread_87 l K hy hQ ih hF
      · refine v_aload_n (pc := 27) K dX10_spread_27 1 rfl ?_
        refine v_iload_n (pc := 28) K dX10_spread_28 3 rfl ?_
        refine v_iload (pc := 29) K dX10_spread_29 4 rfl ?_
        refine v_iconst (pc := 31) (v := 1) K dX10_spread_31 rfl ?_
        obtain ⟨r6, M7, hc5, hF⟩ := q_bE hF
        refine v_callV (pc := 32) (ci := 0) (As := [.int x3, .int x4, .int (1 : Int32)]) (rest := []) (st' := [.int r6]) (r := some (.int r6)) (M1 := M7) K (kX0_after l K.2.2.2.2.2.2.1 hy hc5) (jg_V jl_X10_68 jw_i_X0_after jw_s_X0_after jw_n_X0 jw_c_X0_after) rfl rfl rfl jd_X0_after ⟨Nat.le_of_ble_eq_true rfl, Nat.le_of_ble_eq_true rfl⟩ rfl rfl (Nat.le_of_ble_eq_true rfl) (by decide) (okc_0 hy (by decide)) rfl dX10_spread_32 rfl ?_
        refine v_istore (pc := 35) (lv' := [(5, .int r6), (0, .ref (ly_o y 6)), (1, .ref (ly_o y 4)), (2, .int x2), (3, .int x3), (4, .int x4)]) K 5 dX10_spread_35 (by decide) rfl ?_
        refine v_iload_n (pc := 37) K dX10_spread_37 3 rfl ?_
        refine v_iconst (pc := 38) (v := 4) K dX10_spread_38 rfl ?_
        refine v_ishl (pc := 39) K dX10_spread_39 ?_
        refine v_iload (pc := 40) K dX10_spread_40 5 rfl ?_
        refine v_ior (pc := 42) K dX10_spread_42 ?_
        refine v_istore (pc := 43) (lv' := [(6, .int ((x2 <<< ((4 : Int32) &&& (31 : Int32))) ||| x4)), (5, .int r6), (0, .ref (ly_o y 6)), (1, .ref (ly_o y 4)), (2, .int x2), (3, .int x3), (4, .int x4)]) K 6 dX10_spread_43 (by decide) rfl ?_
        refine v_iload (pc := 45) K dX10_spread_45 1 rfl ?_
        obtain ⟨r9, M10, hc8, hF⟩ := q_bE hF
        refine v_callS (pc := 47) (As := [.int r6]) (rest := []) (st' := [.int r9]) (r := some (.int r9)) (M1 := M10) K (kX7_ending l K.2.2.2.2.2.2.1 hy hc8) (jg_S jl_X10_38 jw_t_X7_ending jw_n_X7 jw_c_X7_ending) rfl rfl rfl jd_X7_ending ⟨Nat.le_of_ble_eq_true rfl, Nat.le_of_ble_eq_true rfl⟩ rfl rfl (Nat.le_of_ble_eq_true rfl) dX10_spread_47 rfl ?_
        refine v_if_eq (pc := 50) (tgt := 73) K dX10_spread_50 (by decide) hF (fun c22 hF => ?_) (fun c22 hF => ?_)
        · refine v_aload_n (pc := 73) K dX10_spread_73 2 rfl ?_
          refine v_iload (pc := 74) K dX10_spread_74 1 rfl ?_
          refine v_aload_n (pc := 76) K dX10_spread_76 2 rfl ?_
          refine gX10_counts (pc := 77) K hy (by decide) jn_X10 (List.mem_cons_of_mem _ jl_X10_15) dX10_spread_77 ?_
          refine v_iload_n (pc := 80) K dX10_spread_80 4 rfl ?_
          refine iX10_counts (pc := 81) K hy (by decide) hF dX10_spread_81 (fun hi11 hF => ?_)
          refine v_iload (pc := 82) K dX10_spread_82 0 rfl ?_
          obtain ⟨M14, hc12, hF⟩ := q_bvE hF
          refine v_callV (pc := 84) (ci := 9) (As := [.int r6, .long (q_l M10 6 1 x2.toNatClampNeg), .int ((x2 <<< ((4 : Int32) &&& (31 : Int32))) ||| x4)]) (rest := []) (st' := []) (r := none) (M1 := M14) K (kX10_arrive l K.2.2.2.2.2.2.1 hy hc12) (jg_V jl_X10_55 jw_i_X10_arrive jw_s_X10_arrive jw_n_X10 jw_c_X10_arrive) rfl rfl rfl jd_X10_arrive ⟨Nat.le_of_ble_eq_true rfl, Nat.le_of_ble_eq_true rfl⟩ rfl rfl (Nat.le_of_ble_eq_true rfl) (by decide) (okc_0 hy (by decide)) rfl dX10_spread_84 rfl ?_
          refine v_sub [2, 3, 4, 5, 6] rfl ?_
          exact bX10_spread_87 l K hy hQ ih hF
        · refine v_aload_n (pc := 53) K dX10_spread_53 2 rfl ?_
          refine v_iload (pc := 54) K dX10_spread_54 1 rfl ?_
          obtain ⟨r16, M17, hc15, hF⟩ := q_bE hF
          refine v_callS (pc := 56) (As := [.int r6]) (rest := [.ref (ly_o y 6)]) (st' := [.int r16, .ref (ly_o y 6)]) (r := some (.int r16)) (M1 := M17) K (kX7_outcome l K.2.2.2.2.2.2.1 hy hc15) (jg_S jl_X10_48 jw_t_X7_outcome jw_n_X7 jw_c_X7_outcome) rfl rfl rfl jd_X7_outcome ⟨Nat.le_of_ble_eq_true rfl, Nat.le_of_ble_eq_true rfl⟩ rfl rfl (Nat.le_of_ble_eq_true rfl) dX10_spread_56 rfl ?_
          refine v_aload_n (pc := 59) K dX10_spread_59 2 rfl ?_
          refine gX10_counts (pc := 60) K hy (by decide) jn_X10 (List.mem_cons_of_mem _ jl_X10_15) dX10_spread_60 ?_
          refine v_iload_n (pc := 63) K dX10_spread_63 4 rfl ?_
          refine iX10_counts (pc := 64) K hy (by decide) hF dX10_spread_64 (fun hi18 hF => ?_)
          refine v_iload (pc := 65) K dX10_spread_65 0 rfl ?_
          obtain ⟨M21, hc19, hF⟩ := q_bvE hF
          refine v_callV (pc := 67) (ci := 9) (As := [.int r16, .long (q_l M17 6 1 x2.toNatClampNeg), .int ((x2 <<< ((4 : Int32) &&& (31 : Int32))) ||| x4)]) (rest := []) (st' := []) (r := none) (M1 := M21) K (kX10_reach l K.2.2.2.2.2.2.1 hy hc19) (jg_V jl_X10_51 jw_i_X10_reach jw_s_X10_reach jw_n_X10 jw_c_X10_reach) rfl rfl rfl jd_X10_reach ⟨Nat.le_of_ble_eq_true rfl, Nat.le_of_ble_eq_true rfl⟩ rfl rfl (Nat.le_of_ble_eq_true rfl) (by decide) (okc_0 hy (by decide)) rfl dX10_spread_67 rfl ?_
          refine v_goto (pc := 70) (tgt := 87) K dX10_spread_70 (by decide) ?_
          refine v_sub [2, 3, 4, 5, 6] rfl ?_
          exact bX10_spread_87 l K hy hQ ih hF
def fX10_spread (M : QM) (x2 : Int32) : Option QM := (if q_in x2 4096 then (fX10_spread_b10 q_F M x2 (q_a M 6 0 x2.toNatClampNeg) (0 : Int32)) else none)
set_option maxRecDepth 100000 in
set_option maxHeartbeats 4000000 in
theorem bX10_spread_0 {x : Cx} {y : Ly} (l : Launch) (K : VK x l rmX10_spread y 7 cX10_spread RX10 wqX10_spread) (hy : y.2.2.2.2 = 0) {z : QM} (hQ : VQ x y none z none) {M : QM} {x2 : Int32} (hF : fX10_spread M x2 = some z) : V x y 7 M 0 [(0, .ref (ly_o y 6)), (1, .ref (ly_o y 4)), (2, .int x2)] [] := by
  unfold fX10_spread at hF
  refine v_aload_n (pc := 0) K dX10_spread_0 0 rfl ?_
  refine gX10_states (pc := 1) K hy (by decide) jn_X10 (List.mem_cons_of_mem _ jl_X10_9) dX10_spread_1 ?_
  refine v_iload_n (pc := 4) K dX10_spread_4 2 rfl ?_
  refine iX10_states (pc := 5) K hy (by decide) hF dX10_spread_5 (fun hi1 hF => ?_)
  refine v_istore_n (pc := 6) (lv' := [(3, .int (q_a M 6 0 x2.toNatClampNeg)), (0, .ref (ly_o y 6)), (1, .ref (ly_o y 4)), (2, .int x2)]) K dX10_spread_6 3 rfl (by decide) rfl ?_
  refine v_iconst (pc := 7) (v := 0) K dX10_spread_7 rfl ?_
  refine v_istore (pc := 8) (lv' := [(4, .int (0 : Int32)), (3, .int (q_a M 6 0 x2.toNatClampNeg)), (0, .ref (ly_o y 6)), (1, .ref (ly_o y 4)), (2, .int x2)]) K 4 dX10_spread_8 (by decide) rfl ?_
  refine v_sub [2, 3, 4, 1, 0] rfl ?_
  exact bX10_spread_10 l K hy hQ q_F hF
set_option maxRecDepth 100000 in
set_option maxHeartbeats 4000000 in
theorem kX10_spread (l : Launch) {y : Ly} (hJ : ly_J y) (hy : y.2.2.2.2 = 0) {M M1 : QM} {x2 : Int32} (hF : fX10_spread M x2 = some M1) : Met l yX10_spread wqX10_spread rmX10_spread (q_P y [.ref (ly_o y 6), .ref (ly_o y 4), .int x2] M) (q_E y none M1) 0 0 (ly_A y) :=
  q_met (by decide) rfl hJ rfl rfl rfl (fun x K hQ => bX10_spread_0 l K hy (z := M1) hQ  hF)
-- ===== X10_go (LTwoCards$Affair;I)V
theorem jd_X10_go : yX10_go.cls = RX10 ∧ yX10_go.cls ≠ "java/lang/invoke/MethodHandle" ∧ yX10_go.cls ≠ "java/lang/invoke/VarHandle" ∧ (parseMethodDescriptor yX10_go.desc).map (fun d => d.parameters.length) = some 2 := by decide +kernel
abbrev wqX10_go : List Cond := .code yX10_go cX10_go 4 none :: wsL_law
abbrev rmX10_go : Room := { frames := 6, cells := 0, slots := 0, locals := 155 }
def fX10_go_b86 : Nat → QM → Int32 → Option QM
  | 0, _, _ => none
  | q + 1, M, x3 => if (q_i M 6 6) ≤ x3 then some M else if (4096 : Int32) ≤ x3 then some M else (q_bv (fX10_spread M x3) fun M26 => (fX10_go_b86 q M26 (x3 + (1 : Int32))))
set_option maxRecDepth 100000 in
set_option maxHeartbeats 4000000 in
theorem bX10_go_86 {x : Cx} {y : Ly} (l : Launch) (K : VK x l rmX10_go y 4 cX10_go RX10 wqX10_go) (hy : y.2.2.2.2 = 0) {z : QM} (hQ : VQ x y none z none) : ∀ (q : Nat) {M : QM} {x3 : Int32},  fX10_go_b86 q M x3 = some z → V x y 4 M 86 [(0, .ref (ly_o y 6)), (1, .ref (ly_o y 4)), (3, .int x3)] [] := by
  intro q
  induction q with
  | zero =>
    intro M x3  hF
    rw [fX10_go_b86] at hF
    cases hF
  | succ q ih =>
    intro M x3  hF
    rw [fX10_go_b86] at hF
    refine v_iload_n (pc := 86) K dX10_go_86 2 rfl ?_
    refine v_aload_n (pc := 87) K dX10_go_87 0 rfl ?_
    refine gX10_size (pc := 88) K hy (by decide) jn_X10 (List.mem_cons_of_mem _ jl_X10_35) dX10_go_88 ?_
    refine v_icmp_ge (pc := 91) (tgt := 113) K dX10_go_91 (by decide) hF (fun c28 hF => ?_) (fun c28 hF => ?_)
    · have hz := (Option.some.inj hF).symm
      subst hz
      exact v_vret (pc := 113) K hQ dX10_go_113
    · refine v_iload_n (pc := 94) K dX10_go_94 2 rfl ?_
      refine v_sipush (pc := 95) (v := 4096) K dX10_go_95 rfl ?_
      refine v_icmp_ge (pc := 98) (tgt := 113) K dX10_go_98 (by decide) hF (fun c27 hF => ?_) (fun c27 hF => ?_)
      · have hz := (Option.some.inj hF).symm
        subst hz
        exact v_vret (pc := 113) K hQ dX10_go_113
      · refine v_aload_n (pc := 101) K dX10_go_101 0 rfl ?_
        refine v_aload_n (pc := 102) K dX10_go_102 1 rfl ?_
        refine v_iload_n (pc := 103) K dX10_go_103 2 rfl ?_
        obtain ⟨M26, hc24, hF⟩ := q_bvE hF
        refine v_callV (pc := 104) (ci := 9) (As := [.ref (ly_o y 4), .int x3]) (rest := []) (st' := []) (r := none) (M1 := M26) K (kX10_spread l K.2.2.2.2.2.2.1 hy hc24) (jg_V jl_X10_58 jw_i_X10_spread jw_s_X10_spread jw_n_X10 jw_c_X10_spread) rfl rfl rfl jd_X10_spread ⟨Nat.le_of_ble_eq_true rfl, Nat.le_of_ble_eq_true rfl⟩ rfl rfl (Nat.le_of_ble_eq_true rfl) (by decide) (okc_0 hy (by decide)) rfl dX10_go_104 rfl ?_
        refine v_iinc (pc := 107) (v1 := x3 + (1 : Int32)) (lv' := [(3, .int (x3 + (1 : Int32))), (0, .ref (ly_o y 6)), (1, .ref (ly_o y 4))]) K dX10_go_107 2 rfl rfl (by decide) rfl ?_
        refine v_goto (pc := 110) (tgt := 86) K dX10_go_110 (by decide) ?_
        refine v_sub [1, 2, 0] rfl ?_
        exact ih hF
def fX10_go_b56 (M : QM) (x2 : Int32) (s0 : Int32) : Option QM := (if q_z s0 then (q_t (p_i M 6 8 s0) fun M13 => if (q_i M13 6 8) = (0 : Int32) then (q_bv (fX10_arrive M13 x2 (1 : Int64) (0 : Int32)) fun M16 => (fX10_go_b86 q_F M16 (0 : Int32))) else (q_b (fX7_outcome M13 x2) fun r18 M19 => (q_bv (fX10_reach M19 r18 (1 : Int64) (0 : Int32)) fun M22 => some M22))) else none)
set_option maxRecDepth 100000 in
set_option maxHeartbeats 4000000 in
theorem bX10_go_56 {x : Cx} {y : Ly} (l : Launch) (K : VK x l rmX10_go y 4 cX10_go RX10 wqX10_go) (hy : y.2.2.2.2 = 0) {z : QM} (hQ : VQ x y none z none) {M : QM} {x2 : Int32} {s0 : Int32} (hF : fX10_go_b56 M x2 s0 = some z) : V x y 4 M 56 [(0, .ref (ly_o y 6)), (1, .ref (ly_o y 4)), (2, .int x2)] [.int s0, .ref (ly_o y 6)] := by
  unfold fX10_go_b56 at hF
  obtain ⟨hz12, hF⟩ := q_kE hF
  refine pX10_isOver (pc := 56) K hy (by decide) jn_X10 (List.mem_cons_of_mem _ jl_X10_44) hz12 dX10_go_56 ?_
  refine v_nmM hF (fun M13 hF => ?_)
  refine v_aload_n (pc := 59) K dX10_go_59 0 rfl ?_
  refine gX10_isOver (pc := 60) K hy (by decide) jn_X10 (List.mem_cons_of_mem _ jl_X10_44) dX10_go_60 ?_
  refine v_if_eq (pc := 63) (tgt := 77) K dX10_go_63 (by decide) hF (fun c23 hF => ?_) (fun c23 hF => ?_)
  · refine v_aload_n (pc := 77) K dX10_go_77 0 rfl ?_
    refine v_iload_n (pc := 78) K dX10_go_78 2 rfl ?_
    refine v_lconst (pc := 79) (v := 1) K dX10_go_79 rfl ?_
    refine v_iconst (pc := 80) (v := 0) K dX10_go_80 rfl ?_
    obtain ⟨M16, hc14, hF⟩ := q_bvE hF
    refine v_callV (pc := 81) (ci := 9) (As := [.int x2, .long (1 : Int64), .int (0 : Int32)]) (rest := []) (st' := []) (r := none) (M1 := M16) K (kX10_arrive l K.2.2.2.2.2.2.1 hy hc14) (jg_V jl_X10_55 jw_i_X10_arrive jw_s_X10_arrive jw_n_X10 jw_c_X10_arrive) rfl rfl rfl jd_X10_arrive ⟨Nat.le_of_ble_eq_true rfl, Nat.le_of_ble_eq_true rfl⟩ rfl rfl (Nat.le_of_ble_eq_true rfl) (by decide) (okc_0 hy (by decide)) rfl dX10_go_81 rfl ?_
    refine v_iconst (pc := 84) (v := 0) K dX10_go_84 rfl ?_
    refine v_istore_n (pc := 85) (lv' := [(3, .int (0 : Int32)), (0, .ref (ly_o y 6)), (1, .ref (ly_o y 4)), (2, .int x2)]) K dX10_go_85 3 rfl (by decide) rfl ?_
    refine v_sub [1, 2, 0] rfl ?_
    exact bX10_go_86 l K hy hQ q_F hF
  · refine v_aload_n (pc := 66) K dX10_go_66 0 rfl ?_
    refine v_iload_n (pc := 67) K dX10_go_67 2 rfl ?_
    obtain ⟨r18, M19, hc17, hF⟩ := q_bE hF
    refine v_callS (pc := 68) (As := [.int x2]) (rest := [.ref (ly_o y 6)]) (st' := [.int r18, .ref (ly_o y 6)]) (r := some (.int r18)) (M1 := M19) K (kX7_outcome l K.2.2.2.2.2.2.1 hy hc17) (jg_S jl_X10_48 jw_t_X7_outcome jw_n_X7 jw_c_X7_outcome) rfl rfl rfl jd_X7_outcome ⟨Nat.le_of_ble_eq_true rfl, Nat.le_of_ble_eq_true rfl⟩ rfl rfl (Nat.le_of_ble_eq_true rfl) dX10_go_68 rfl ?_
    refine v_lconst (pc := 71) (v := 1) K dX10_go_71 rfl ?_
    refine v_iconst (pc := 72) (v := 0) K dX10_go_72 rfl ?_
    obtain ⟨M22, hc20, hF⟩ := q_bvE hF
    refine v_callV (pc := 73) (ci := 9) (As := [.int r18, .long (1 : Int64), .int (0 : Int32)]) (rest := []) (st' := []) (r := none) (M1 := M22) K (kX10_reach l K.2.2.2.2.2.2.1 hy hc20) (jg_V jl_X10_51 jw_i_X10_reach jw_s_X10_reach jw_n_X10 jw_c_X10_reach) rfl rfl rfl jd_X10_reach ⟨Nat.le_of_ble_eq_true rfl, Nat.le_of_ble_eq_true rfl⟩ rfl rfl (Nat.le_of_ble_eq_true rfl) (by decide) (okc_0 hy (by decide)) rfl dX10_go_73 rfl ?_
    have hz := (Option.some.inj hF).symm
    subst hz
    exact v_vret (pc := 76) K hQ dX10_go_76
def fX10_go_b43 (M : QM) (x2 : Int32) : Option QM := (q_b (fX7_ending M x2) fun r9 M10 => if r9 = (0 : Int32) then (fX10_go_b56 M10 x2 (0 : Int32)) else (fX10_go_b56 M10 x2 (1 : Int32)))
set_option maxRecDepth 100000 in
set_option maxHeartbeats 4000000 in
theorem bX10_go_43 {x : Cx} {y : Ly} (l : Launch) (K : VK x l rmX10_go y 4 cX10_go RX10 wqX10_go) (hy : y.2.2.2.2 = 0) {z : QM} (hQ : VQ x y none z none) {M : QM} {x2 : Int32} (hF : fX10_go_b43 M x2 = some z) : V x y 4 M 43 [(0, .ref (ly_o y 6)), (1, .ref (ly_o y 4)), (2, .int x2)] [] := by
  unfold fX10_go_b43 at hF
  refine v_aload_n (pc := 43) K dX10_go_43 0 rfl ?_
  refine v_iload_n (pc := 44) K dX10_go_44 2 rfl ?_
  obtain ⟨r9, M10, hc8, hF⟩ := q_bE hF
  refine v_callS (pc := 45) (As := [.int x2]) (rest := [.ref (ly_o y 6)]) (st' := [.int r9, .ref (ly_o y 6)]) (r := some (.int r9)) (M1 := M10) K (kX7_ending l K.2.2.2.2.2.2.1 hy hc8) (jg_S jl_X10_38 jw_t_X7_ending jw_n_X7 jw_c_X7_ending) rfl rfl rfl jd_X7_ending ⟨Nat.le_of_ble_eq_true rfl, Nat.le_of_ble_eq_true rfl⟩ rfl rfl (Nat.le_of_ble_eq_true rfl) dX10_go_45 rfl ?_
  refine v_if_eq (pc := 48) (tgt := 55) K dX10_go_48 (by decide) hF (fun c11 hF => ?_) (fun c11 hF => ?_)
  · refine v_iconst (pc := 55) (v := 0) K dX10_go_55 rfl ?_
    exact bX10_go_56 l K hy hQ hF
  · refine v_iconst (pc := 51) (v := 1) K dX10_go_51 rfl ?_
    refine v_goto (pc := 52) (tgt := 56) K dX10_go_52 (by decide) ?_
    exact bX10_go_56 l K hy hQ hF
def fX10_go_b17 : Nat → QM → Int32 → Int32 → Option QM
  | 0, _, _, _ => none
  | q + 1, M, x2, x3 => if (20 : Int32) ≤ x3 then (fX10_go_b43 M x2) else (if q_in x3 20 then (q_t (p_l M 6 4 x3.toNatClampNeg (0 : Int64)) fun M4 => (if q_in x3 20 then (q_t (p_a M4 6 5 x3.toNatClampNeg (0 : Int32)) fun M6 => (fX10_go_b17 q M6 x2 (x3 + (1 : Int32)))) else none)) else none)
set_option maxRecDepth 100000 in
set_option maxHeartbeats 4000000 in
theorem bX10_go_17 {x : Cx} {y : Ly} (l : Launch) (K : VK x l rmX10_go y 4 cX10_go RX10 wqX10_go) (hy : y.2.2.2.2 = 0) {z : QM} (hQ : VQ x y none z none) : ∀ (q : Nat) {M : QM} {x2 : Int32} {x3 : Int32},  fX10_go_b17 q M x2 x3 = some z → V x y 4 M 17 [(0, .ref (ly_o y 6)), (1, .ref (ly_o y 4)), (2, .int x2), (3, .int x3)] [] := by
  intro q
  induction q with
  | zero =>
    intro M x2 x3  hF
    rw [fX10_go_b17] at hF
    cases hF
  | succ q ih =>
    intro M x2 x3  hF
    rw [fX10_go_b17] at hF
    refine v_iload_n (pc := 17) K dX10_go_17 3 rfl ?_
    refine v_bipush (pc := 18) (v := 20) K dX10_go_18 rfl ?_
    refine v_icmp_ge (pc := 20) (tgt := 43) K dX10_go_20 (by decide) hF (fun c7 hF => ?_) (fun c7 hF => ?_)
    · refine v_sub [0, 1, 2] rfl ?_
      exact bX10_go_43 l K hy hQ hF
    · refine v_aload_n (pc := 23) K dX10_go_23 0 rfl ?_
      refine gX10_waysTo (pc := 24) K hy (by decide) jn_X10 (List.mem_cons_of_mem _ jl_X10_25) dX10_go_24 ?_
      refine v_iload_n (pc := 27) K dX10_go_27 3 rfl ?_
      refine v_lconst (pc := 28) (v := 0) K dX10_go_28 rfl ?_
      refine uX10_waysTo (pc := 29) K hy (by decide) hF dX10_go_29 (fun hi3 hF => ?_)
      refine v_nmM hF (fun M4 hF => ?_)
      refine v_aload_n (pc := 30) K dX10_go_30 0 rfl ?_
      refine gX10_firstTo (pc := 31) K hy (by decide) jn_X10 (List.mem_cons_of_mem _ jl_X10_28) dX10_go_31 ?_
      refine v_iload_n (pc := 34) K dX10_go_34 3 rfl ?_
      refine v_iconst (pc := 35) (v := 0) K dX10_go_35 rfl ?_
      refine uX10_firstTo (pc := 36) K hy (by decide) hF dX10_go_36 (fun hi5 hF => ?_)
      refine v_nmM hF (fun M6 hF => ?_)
      refine v_iinc (pc := 37) (v1 := x3 + (1 : Int32)) (lv' := [(3, .int (x3 + (1 : Int32))), (0, .ref (ly_o y 6)), (1, .ref (ly_o y 4)), (2, .int x2)]) K dX10_go_37 3 rfl rfl (by decide) rfl ?_
      refine v_goto (pc := 40) (tgt := 17) K dX10_go_40 (by decide) ?_
      refine v_sub [1, 2, 3, 0] rfl ?_
      exact ih hF
def fX10_go (M : QM) (x2 : Int32) : Option QM := (q_t (p_i M 6 7 ((q_i M 6 7) + (1 : Int32))) fun M1 => (q_t (p_i M1 6 6 (0 : Int32)) fun M2 => (fX10_go_b17 q_F M2 x2 (0 : Int32))))
set_option maxRecDepth 100000 in
set_option maxHeartbeats 4000000 in
theorem bX10_go_0 {x : Cx} {y : Ly} (l : Launch) (K : VK x l rmX10_go y 4 cX10_go RX10 wqX10_go) (hy : y.2.2.2.2 = 0) {z : QM} (hQ : VQ x y none z none) {M : QM} {x2 : Int32} (hF : fX10_go M x2 = some z) : V x y 4 M 0 [(0, .ref (ly_o y 6)), (1, .ref (ly_o y 4)), (2, .int x2)] [] := by
  unfold fX10_go at hF
  refine v_aload_n (pc := 0) K dX10_go_0 0 rfl ?_
  refine v_dup (pc := 1) K dX10_go_1 rfl ?_
  refine gX10_mark (pc := 2) K hy (by decide) jn_X10 (List.mem_cons_of_mem _ jl_X10_31) dX10_go_2 ?_
  refine v_iconst (pc := 5) (v := 1) K dX10_go_5 rfl ?_
  refine v_iadd (pc := 6) K dX10_go_6 ?_
  refine pX10_mark (pc := 7) K hy (by decide) jn_X10 (List.mem_cons_of_mem _ jl_X10_31) dX10_go_7 ?_
  refine v_nmM hF (fun M1 hF => ?_)
  refine v_aload_n (pc := 10) K dX10_go_10 0 rfl ?_
  refine v_iconst (pc := 11) (v := 0) K dX10_go_11 rfl ?_
  refine pX10_size (pc := 12) K hy (by decide) jn_X10 (List.mem_cons_of_mem _ jl_X10_35) dX10_go_12 ?_
  refine v_nmM hF (fun M2 hF => ?_)
  refine v_iconst (pc := 15) (v := 0) K dX10_go_15 rfl ?_
  refine v_istore_n (pc := 16) (lv' := [(3, .int (0 : Int32)), (0, .ref (ly_o y 6)), (1, .ref (ly_o y 4)), (2, .int x2)]) K dX10_go_16 3 rfl (by decide) rfl ?_
  refine v_sub [1, 2, 3, 0] rfl ?_
  exact bX10_go_17 l K hy hQ q_F hF
set_option maxRecDepth 100000 in
set_option maxHeartbeats 4000000 in
theorem kX10_go (l : Launch) {y : Ly} (hJ : ly_J y) (hy : y.2.2.2.2 = 0) {M M1 : QM} {x2 : Int32} (hF : fX10_go M x2 = some M1) : Met l yX10_go wqX10_go rmX10_go (q_P y [.ref (ly_o y 6), .ref (ly_o y 4), .int x2] M) (q_E y none M1) 0 0 (ly_A y) :=
  q_met (by decide) rfl hJ rfl rfl rfl (fun x K hQ => bX10_go_0 l K hy (z := M1) hQ  hF)
-- ===== X10_outcomes ()I
theorem jd_X10_outcomes : yX10_outcomes.cls = RX10 ∧ yX10_outcomes.cls ≠ "java/lang/invoke/MethodHandle" ∧ yX10_outcomes.cls ≠ "java/lang/invoke/VarHandle" ∧ (parseMethodDescriptor yX10_outcomes.desc).map (fun d => d.parameters.length) = some 0 := by decide +kernel
abbrev wqX10_outcomes : List Cond := .code yX10_outcomes cX10_outcomes 3 (some .int) :: wsL_law
abbrev rmX10_outcomes : Room := { frames := 0, cells := 0, slots := 0, locals := 0 }
def fX10_outcomes_b27 (k4 : QM → Int32 → Int32 → Option (Int32 × QM)) (M : QM) (x1 : Int32) (x2 : Int32) : Option (Int32 × QM) := (k4 M x1 (x2 + (1 : Int32)))
set_option maxRecDepth 100000 in
set_option maxHeartbeats 4000000 in
theorem bX10_outcomes_27 {x : Cx} {y : Ly} (l : Launch) (K : VK x l rmX10_outcomes y 3 cX10_outcomes RX10 wqX10_outcomes) (hy : y.2.2.2.2 = 0) {z : Int32 × QM} (hQ : VQ x y (some (.int z.1)) z.2 (some .int)) {k4 : QM → Int32 → Int32 → Option (Int32 × QM)} (hk4 : ∀ {M : QM} {x1 : Int32} {x2 : Int32}, k4 M x1 x2 = some z → V x y 3 M 4 [(0, .ref (ly_o y 6)), (1, .int x1), (2, .int x2)] []) {M : QM} {x1 : Int32} {x2 : Int32} (hF : fX10_outcomes_b27 k4 M x1 x2 = some z) : V x y 3 M 27 [(0, .ref (ly_o y 6)), (1, .int x1), (2, .int x2)] [] := by
  unfold fX10_outcomes_b27 at hF
  refine v_iinc (pc := 27) (v1 := x2 + (1 : Int32)) (lv' := [(2, .int (x2 + (1 : Int32))), (0, .ref (ly_o y 6)), (1, .int x1)]) K dX10_outcomes_27 2 rfl rfl (by decide) rfl ?_
  refine v_goto (pc := 30) (tgt := 4) K dX10_outcomes_30 (by decide) ?_
  refine v_sub [1, 2, 0] rfl ?_
  exact hk4 hF
def fX10_outcomes_b4 : Nat → QM → Int32 → Int32 → Option (Int32 × QM)
  | 0, _, _, _ => none
  | q + 1, M, x1, x2 => if (20 : Int32) ≤ x2 then some (x1, M) else (if q_in x2 20 then if (lg_cmp (q_l M 6 4 x2.toNatClampNeg) (0 : Int64)) = (0 : Int32) then (fX10_outcomes_b27 (fun M x1 x2 => fX10_outcomes_b4 q M x1 x2) M x1 x2) else (fX10_outcomes_b27 (fun M x1 x2 => fX10_outcomes_b4 q M x1 x2) M (x1 ||| ((1 : Int32) <<< (x2 &&& (31 : Int32)))) x2) else none)
set_option maxRecDepth 100000 in
set_option maxHeartbeats 4000000 in
theorem bX10_outcomes_4 {x : Cx} {y : Ly} (l : Launch) (K : VK x l rmX10_outcomes y 3 cX10_outcomes RX10 wqX10_outcomes) (hy : y.2.2.2.2 = 0) {z : Int32 × QM} (hQ : VQ x y (some (.int z.1)) z.2 (some .int)) : ∀ (q : Nat) {M : QM} {x1 : Int32} {x2 : Int32},  fX10_outcomes_b4 q M x1 x2 = some z → V x y 3 M 4 [(0, .ref (ly_o y 6)), (1, .int x1), (2, .int x2)] [] := by
  intro q
  induction q with
  | zero =>
    intro M x1 x2  hF
    rw [fX10_outcomes_b4] at hF
    cases hF
  | succ q ih =>
    intro M x1 x2  hF
    rw [fX10_outcomes_b4] at hF
    refine v_iload_n (pc := 4) K dX10_outcomes_4 2 rfl ?_
    refine v_bipush (pc := 5) (v := 20) K dX10_outcomes_5 rfl ?_
    refine v_icmp_ge (pc := 7) (tgt := 33) K dX10_outcomes_7 (by decide) hF (fun c3 hF => ?_) (fun c3 hF => ?_)
    · refine v_iload_n (pc := 33) K dX10_outcomes_33 1 rfl ?_
      have hz := (Option.some.inj hF).symm
      subst hz
      exact v_iret (pc := 34) K hQ dX10_outcomes_34
    · refine v_aload_n (pc := 10) K dX10_outcomes_10 0 rfl ?_
      refine gX10_waysTo (pc := 11) K hy (by decide) jn_X10 (List.mem_cons_of_mem _ jl_X10_25) dX10_outcomes_11 ?_
      refine v_iload_n (pc := 14) K dX10_outcomes_14 2 rfl ?_
      refine iX10_waysTo (pc := 15) K hy (by decide) hF dX10_outcomes_15 (fun hi1 hF => ?_)
      refine v_lconst (pc := 16) (v := 0) K dX10_outcomes_16 rfl ?_
      refine v_lcmp (pc := 17) K dX10_outcomes_17 ?_
      refine v_if_eq (pc := 18) (tgt := 27) K dX10_outcomes_18 (by decide) hF (fun c2 hF => ?_) (fun c2 hF => ?_)
      · exact bX10_outcomes_27 l K hy hQ ih hF
      · refine v_iload_n (pc := 21) K dX10_outcomes_21 1 rfl ?_
        refine v_iconst (pc := 22) (v := 1) K dX10_outcomes_22 rfl ?_
        refine v_iload_n (pc := 23) K dX10_outcomes_23 2 rfl ?_
        refine v_ishl (pc := 24) K dX10_outcomes_24 ?_
        refine v_ior (pc := 25) K dX10_outcomes_25 ?_
        refine v_istore_n (pc := 26) (lv' := [(1, .int (x1 ||| ((1 : Int32) <<< (x2 &&& (31 : Int32))))), (0, .ref (ly_o y 6)), (2, .int x2)]) K dX10_outcomes_26 1 rfl (by decide) rfl ?_
        refine v_sub [1, 0, 2] rfl ?_
        exact bX10_outcomes_27 l K hy hQ ih hF
def fX10_outcomes (M : QM) : Option (Int32 × QM) := (fX10_outcomes_b4 q_F M (0 : Int32) (0 : Int32))
set_option maxRecDepth 100000 in
set_option maxHeartbeats 4000000 in
theorem bX10_outcomes_0 {x : Cx} {y : Ly} (l : Launch) (K : VK x l rmX10_outcomes y 3 cX10_outcomes RX10 wqX10_outcomes) (hy : y.2.2.2.2 = 0) {z : Int32 × QM} (hQ : VQ x y (some (.int z.1)) z.2 (some .int)) {M : QM} (hF : fX10_outcomes M  = some z) : V x y 3 M 0 [(0, .ref (ly_o y 6))] [] := by
  unfold fX10_outcomes at hF
  refine v_iconst (pc := 0) (v := 0) K dX10_outcomes_0 rfl ?_
  refine v_istore_n (pc := 1) (lv' := [(1, .int (0 : Int32)), (0, .ref (ly_o y 6))]) K dX10_outcomes_1 1 rfl (by decide) rfl ?_
  refine v_iconst (pc := 2) (v := 0) K dX10_outcomes_2 rfl ?_
  refine v_istore_n (pc := 3) (lv' := [(2, .int (0 : Int32)), (1, .int (0 : Int32)), (0, .ref (ly_o y 6))]) K dX10_outcomes_3 2 rfl (by decide) rfl ?_
  refine v_sub [2, 1, 0] rfl ?_
  exact bX10_outcomes_4 l K hy hQ q_F hF
set_option maxRecDepth 100000 in
set_option maxHeartbeats 4000000 in
theorem kX10_outcomes (l : Launch) {y : Ly} (hJ : ly_J y) (hy : y.2.2.2.2 = 0) {M M1 : QM} {r : Int32} (hF : fX10_outcomes M  = some (r, M1)) : Met l yX10_outcomes wqX10_outcomes rmX10_outcomes (q_P y [.ref (ly_o y 6)] M) (q_E y (some (.int r)) M1) 0 0 (ly_A y) :=
  q_met (by decide) rfl hJ rfl rfl rfl (fun x K hQ => bX10_outcomes_0 l K hy (z := (r, M1)) hQ  hF)
-- ===== X10_waysTo (I)J
theorem jd_X10_waysTo : yX10_waysTo.cls = RX10 ∧ yX10_waysTo.cls ≠ "java/lang/invoke/MethodHandle" ∧ yX10_waysTo.cls ≠ "java/lang/invoke/VarHandle" ∧ (parseMethodDescriptor yX10_waysTo.desc).map (fun d => d.parameters.length) = some 1 := by decide +kernel
abbrev wqX10_waysTo : List Cond := .code yX10_waysTo cX10_waysTo 2 (some .long) :: wsL_law
abbrev rmX10_waysTo : Room := { frames := 0, cells := 0, slots := 0, locals := 0 }
def fX10_waysTo (M : QM) (x1 : Int32) : Option (Int64 × QM) := if x1 < (0 : Int32) then some ((0 : Int64), M) else if (20 : Int32) ≤ x1 then some ((0 : Int64), M) else (if q_in x1 20 then some (q_l M 6 4 x1.toNatClampNeg, M) else none)
set_option maxRecDepth 100000 in
set_option maxHeartbeats 4000000 in
theorem bX10_waysTo_0 {x : Cx} {y : Ly} (l : Launch) (K : VK x l rmX10_waysTo y 2 cX10_waysTo RX10 wqX10_waysTo) (hy : y.2.2.2.2 = 0) {z : Int64 × QM} (hQ : VQ x y (some (.long z.1)) z.2 (some .long)) {M : QM} {x1 : Int32} (hF : fX10_waysTo M x1 = some z) : V x y 2 M 0 [(0, .ref (ly_o y 6)), (1, .int x1)] [] := by
  unfold fX10_waysTo at hF
  refine v_iload_n (pc := 0) K dX10_waysTo_0 1 rfl ?_
  refine v_if_lt (pc := 1) (tgt := 19) K dX10_waysTo_1 (by decide) hF (fun c3 hF => ?_) (fun c3 hF => ?_)
  · refine v_lconst (pc := 19) (v := 0) K dX10_waysTo_19 rfl ?_
    have hz := (Option.some.inj hF).symm
    subst hz
    exact v_lret (pc := 20) K hQ dX10_waysTo_20
  · refine v_iload_n (pc := 4) K dX10_waysTo_4 1 rfl ?_
    refine v_bipush (pc := 5) (v := 20) K dX10_waysTo_5 rfl ?_
    refine v_icmp_ge (pc := 7) (tgt := 19) K dX10_waysTo_7 (by decide) hF (fun c2 hF => ?_) (fun c2 hF => ?_)
    · refine v_lconst (pc := 19) (v := 0) K dX10_waysTo_19 rfl ?_
      have hz := (Option.some.inj hF).symm
      subst hz
      exact v_lret (pc := 20) K hQ dX10_waysTo_20
    · refine v_aload_n (pc := 10) K dX10_waysTo_10 0 rfl ?_
      refine gX10_waysTo (pc := 11) K hy (by decide) jn_X10 (List.mem_cons_of_mem _ jl_X10_25) dX10_waysTo_11 ?_
      refine v_iload_n (pc := 14) K dX10_waysTo_14 1 rfl ?_
      refine iX10_waysTo (pc := 15) K hy (by decide) hF dX10_waysTo_15 (fun hi1 hF => ?_)
      refine v_goto (pc := 16) (tgt := 20) K dX10_waysTo_16 (by decide) ?_
      have hz := (Option.some.inj hF).symm
      subst hz
      exact v_lret (pc := 20) K hQ dX10_waysTo_20
set_option maxRecDepth 100000 in
set_option maxHeartbeats 4000000 in
theorem kX10_waysTo (l : Launch) {y : Ly} (hJ : ly_J y) (hy : y.2.2.2.2 = 0) {M M1 : QM} {r : Int64} {x1 : Int32} (hF : fX10_waysTo M x1 = some (r, M1)) : Met l yX10_waysTo wqX10_waysTo rmX10_waysTo (q_P y [.ref (ly_o y 6), .int x1] M) (q_E y (some (.long r)) M1) 0 0 (ly_A y) :=
  q_met (by decide) rfl hJ rfl rfl rfl (fun x K hQ => bX10_waysTo_0 l K hy (z := (r, M1)) hQ  hF)
-- ===== X10_fewestTo (I)I
theorem jd_X10_fewestTo : yX10_fewestTo.cls = RX10 ∧ yX10_fewestTo.cls ≠ "java/lang/invoke/MethodHandle" ∧ yX10_fewestTo.cls ≠ "java/lang/invoke/VarHandle" ∧ (parseMethodDescriptor yX10_fewestTo.desc).map (fun d => d.parameters.length) = some 1 := by decide +kernel
abbrev wqX10_fewestTo : List Cond := .code yX10_fewestTo cX10_fewestTo 5 (some .int) :: wsL_law
abbrev rmX10_fewestTo : Room := { frames := 0, cells := 0, slots := 0, locals := 0 }
def fX10_fewestTo_b33 : Nat → QM → Int32 → Int32 → Int32 → Option (Int32 × QM)
  | 0, _, _, _, _ => none
  | q + 1, M, x2, x3, x4 => if (8 : Int32) ≤ x4 then some (x2, M) else if x3 ≤ (0 : Int32) then some (x2, M) else if (4096 : Int32) ≤ x3 then some (x2, M) else (if q_in x3 4096 then (fX10_fewestTo_b33 q M (x2 + (1 : Int32)) ((q_a M 6 2 x3.toNatClampNeg) >>> ((4 : Int32) &&& (31 : Int32))) (x4 + (1 : Int32))) else none)
set_option maxRecDepth 100000 in
set_option maxHeartbeats 4000000 in
theorem bX10_fewestTo_33 {x : Cx} {y : Ly} (l : Launch) (K : VK x l rmX10_fewestTo y 5 cX10_fewestTo RX10 wqX10_fewestTo) (hy : y.2.2.2.2 = 0) {z : Int32 × QM} (hQ : VQ x y (some (.int z.1)) z.2 (some .int)) : ∀ (q : Nat) {M : QM} {x2 : Int32} {x3 : Int32} {x4 : Int32},  fX10_fewestTo_b33 q M x2 x3 x4 = some z → V x y 5 M 33 [(0, .ref (ly_o y 6)), (2, .int x2), (3, .int x3), (4, .int x4)] [] := by
  intro q
  induction q with
  | zero =>
    intro M x2 x3 x4  hF
    rw [fX10_fewestTo_b33] at hF
    cases hF
  | succ q ih =>
    intro M x2 x3 x4  hF
    rw [fX10_fewestTo_b33] at hF
    refine v_iload (pc := 33) K dX10_fewestTo_33 3 rfl ?_
    refine v_bipush (pc := 35) (v := 8) K dX10_fewestTo_35 rfl ?_
    refine v_icmp_ge (pc := 37) (tgt := 69) K dX10_fewestTo_37 (by decide) hF (fun c8 hF => ?_) (fun c8 hF => ?_)
    · refine v_iload_n (pc := 69) K dX10_fewestTo_69 1 rfl ?_
      have hz := (Option.some.inj hF).symm
      subst hz
      exact v_iret (pc := 70) K hQ dX10_fewestTo_70
    · refine v_iload_n (pc := 40) K dX10_fewestTo_40 2 rfl ?_
      refine v_if_le (pc := 41) (tgt := 69) K dX10_fewestTo_41 (by decide) hF (fun c7 hF => ?_) (fun c7 hF => ?_)
      · refine v_iload_n (pc := 69) K dX10_fewestTo_69 1 rfl ?_
        have hz := (Option.some.inj hF).symm
        subst hz
        exact v_iret (pc := 70) K hQ dX10_fewestTo_70
      · refine v_iload_n (pc := 44) K dX10_fewestTo_44 2 rfl ?_
        refine v_sipush (pc := 45) (v := 4096) K dX10_fewestTo_45 rfl ?_
        refine v_icmp_ge (pc := 48) (tgt := 69) K dX10_fewestTo_48 (by decide) hF (fun c6 hF => ?_) (fun c6 hF => ?_)
        · refine v_iload_n (pc := 69) K dX10_fewestTo_69 1 rfl ?_
          have hz := (Option.some.inj hF).symm
          subst hz
          exact v_iret (pc := 70) K hQ dX10_fewestTo_70
        · refine v_iinc (pc := 51) (v1 := x2 + (1 : Int32)) (lv' := [(2, .int (x2 + (1 : Int32))), (0, .ref (ly_o y 6)), (3, .int x3), (4, .int x4)]) K dX10_fewestTo_51 1 rfl rfl (by decide) rfl ?_
          refine v_aload_n (pc := 54) K dX10_fewestTo_54 1 rfl ?_
          refine gX10_origins (pc := 55) K hy (by decide) jn_X10 (List.mem_cons_of_mem _ jl_X10_19) dX10_fewestTo_55 ?_
          refine v_iload_n (pc := 58) K dX10_fewestTo_58 2 rfl ?_
          refine iX10_origins (pc := 59) K hy (by decide) hF dX10_fewestTo_59 (fun hi5 hF => ?_)
          refine v_iconst (pc := 60) (v := 4) K dX10_fewestTo_60 rfl ?_
          refine v_ishr (pc := 61) K dX10_fewestTo_61 ?_
          refine v_istore_n (pc := 62) (lv' := [(3, .int ((q_a M 6 2 x3.toNatClampNeg) >>> ((4 : Int32) &&& (31 : Int32)))), (2, .int (x2 + (1 : Int32))), (0, .ref (ly_o y 6)), (4, .int x4)]) K dX10_fewestTo_62 3 rfl (by decide) rfl ?_
          refine v_iinc (pc := 63) (v1 := x4 + (1 : Int32)) (lv' := [(4, .int (x4 + (1 : Int32))), (3, .int ((q_a M 6 2 x3.toNatClampNeg) >>> ((4 : Int32) &&& (31 : Int32)))), (2, .int (x2 + (1 : Int32))), (0, .ref (ly_o y 6))]) K dX10_fewestTo_63 3 rfl rfl (by decide) rfl ?_
          refine v_goto (pc := 66) (tgt := 33) K dX10_fewestTo_66 (by decide) ?_
          refine v_sub [3, 2, 1, 0] rfl ?_
          exact ih hF
def fX10_fewestTo (M : QM) (x1 : Int32) : Option (Int32 × QM) := if (q_i M 6 8) ≠ (0 : Int32) then some ((0 : Int32), M) else if x1 < (0 : Int32) then some ((0 : Int32), M) else if x1 < (20 : Int32) then (if q_in x1 20 then (fX10_fewestTo_b33 q_F M (1 : Int32) ((q_a M 6 5 x1.toNatClampNeg) >>> ((4 : Int32) &&& (31 : Int32))) (0 : Int32)) else none) else some ((0 : Int32), M)
set_option maxRecDepth 100000 in
set_option maxHeartbeats 4000000 in
theorem bX10_fewestTo_0 {x : Cx} {y : Ly} (l : Launch) (K : VK x l rmX10_fewestTo y 5 cX10_fewestTo RX10 wqX10_fewestTo) (hy : y.2.2.2.2 = 0) {z : Int32 × QM} (hQ : VQ x y (some (.int z.1)) z.2 (some .int)) {M : QM} {x1 : Int32} (hF : fX10_fewestTo M x1 = some z) : V x y 5 M 0 [(0, .ref (ly_o y 6)), (1, .int x1)] [] := by
  unfold fX10_fewestTo at hF
  refine v_aload_n (pc := 0) K dX10_fewestTo_0 0 rfl ?_
  refine gX10_isOver (pc := 1) K hy (by decide) jn_X10 (List.mem_cons_of_mem _ jl_X10_44) dX10_fewestTo_1 ?_
  refine v_if_ne (pc := 4) (tgt := 17) K dX10_fewestTo_4 (by decide) hF (fun c4 hF => ?_) (fun c4 hF => ?_)
  · refine v_iconst (pc := 17) (v := 0) K dX10_fewestTo_17 rfl ?_
    have hz := (Option.some.inj hF).symm
    subst hz
    exact v_iret (pc := 18) K hQ dX10_fewestTo_18
  · refine v_iload_n (pc := 7) K dX10_fewestTo_7 1 rfl ?_
    refine v_if_lt (pc := 8) (tgt := 17) K dX10_fewestTo_8 (by decide) hF (fun c3 hF => ?_) (fun c3 hF => ?_)
    · refine v_iconst (pc := 17) (v := 0) K dX10_fewestTo_17 rfl ?_
      have hz := (Option.some.inj hF).symm
      subst hz
      exact v_iret (pc := 18) K hQ dX10_fewestTo_18
    · refine v_iload_n (pc := 11) K dX10_fewestTo_11 1 rfl ?_
      refine v_bipush (pc := 12) (v := 20) K dX10_fewestTo_12 rfl ?_
      refine v_icmp_lt (pc := 14) (tgt := 19) K dX10_fewestTo_14 (by decide) hF (fun c2 hF => ?_) (fun c2 hF => ?_)
      · refine v_iconst (pc := 19) (v := 1) K dX10_fewestTo_19 rfl ?_
        refine v_istore_n (pc := 20) (lv' := [(2, .int (1 : Int32)), (0, .ref (ly_o y 6)), (1, .int x1)]) K dX10_fewestTo_20 2 rfl (by decide) rfl ?_
        refine v_aload_n (pc := 21) K dX10_fewestTo_21 1 rfl ?_
        refine gX10_firstTo (pc := 22) K hy (by decide) jn_X10 (List.mem_cons_of_mem _ jl_X10_28) dX10_fewestTo_22 ?_
        refine v_iload_n (pc := 25) K dX10_fewestTo_25 2 rfl ?_
        refine iX10_firstTo (pc := 26) K hy (by decide) hF dX10_fewestTo_26 (fun hi1 hF => ?_)
        refine v_iconst (pc := 27) (v := 4) K dX10_fewestTo_27 rfl ?_
        refine v_ishr (pc := 28) K dX10_fewestTo_28 ?_
        refine v_istore_n (pc := 29) (lv' := [(3, .int ((q_a M 6 5 x1.toNatClampNeg) >>> ((4 : Int32) &&& (31 : Int32)))), (2, .int (1 : Int32)), (0, .ref (ly_o y 6)), (1, .int x1)]) K dX10_fewestTo_29 3 rfl (by decide) rfl ?_
        refine v_iconst (pc := 30) (v := 0) K dX10_fewestTo_30 rfl ?_
        refine v_istore (pc := 31) (lv' := [(4, .int (0 : Int32)), (3, .int ((q_a M 6 5 x1.toNatClampNeg) >>> ((4 : Int32) &&& (31 : Int32)))), (2, .int (1 : Int32)), (0, .ref (ly_o y 6)), (1, .int x1)]) K 4 dX10_fewestTo_31 (by decide) rfl ?_
        refine v_sub [3, 2, 1, 0] rfl ?_
        exact bX10_fewestTo_33 l K hy hQ q_F hF
      · refine v_iconst (pc := 17) (v := 0) K dX10_fewestTo_17 rfl ?_
        have hz := (Option.some.inj hF).symm
        subst hz
        exact v_iret (pc := 18) K hQ dX10_fewestTo_18
set_option maxRecDepth 100000 in
set_option maxHeartbeats 4000000 in
theorem kX10_fewestTo (l : Launch) {y : Ly} (hJ : ly_J y) (hy : y.2.2.2.2 = 0) {M M1 : QM} {r : Int32} {x1 : Int32} (hF : fX10_fewestTo M x1 = some (r, M1)) : Met l yX10_fewestTo wqX10_fewestTo rmX10_fewestTo (q_P y [.ref (ly_o y 6), .int x1] M) (q_E y (some (.int r)) M1) 0 0 (ly_A y) :=
  q_met (by decide) rfl hJ rfl rfl rfl (fun x K hQ => bX10_fewestTo_0 l K hy (z := (r, M1)) hQ  hF)
-- ===== X10_moveTo (II)I
theorem jd_X10_moveTo : yX10_moveTo.cls = RX10 ∧ yX10_moveTo.cls ≠ "java/lang/invoke/MethodHandle" ∧ yX10_moveTo.cls ≠ "java/lang/invoke/VarHandle" ∧ (parseMethodDescriptor yX10_moveTo.desc).map (fun d => d.parameters.length) = some 2 := by decide +kernel
abbrev wqX10_moveTo : List Cond := .code yX10_moveTo cX10_moveTo 6 (some .int) :: wsL_law
abbrev rmX10_moveTo : Room := { frames := 0, cells := 0, slots := 0, locals := 0 }
def fX10_moveTo_b64 (k22 : QM → Int32 → Int32 → Int32 → Option (Int32 × QM)) (M : QM) (x2 : Int32) (x4 : Int32) (s0 : Int32) : Option (Int32 × QM) := (k22 M x2 s0 (x4 + (1 : Int32)))
set_option maxRecDepth 100000 in
set_option maxHeartbeats 4000000 in
theorem bX10_moveTo_64 {x : Cx} {y : Ly} (l : Launch) (K : VK x l rmX10_moveTo y 6 cX10_moveTo RX10 wqX10_moveTo) (hy : y.2.2.2.2 = 0) {z : Int32 × QM} (hQ : VQ x y (some (.int z.1)) z.2 (some .int)) {k22 : QM → Int32 → Int32 → Int32 → Option (Int32 × QM)} (hk22 : ∀ {M : QM} {x2 : Int32} {x3 : Int32} {x4 : Int32}, k22 M x2 x3 x4 = some z → V x y 6 M 22 [(0, .ref (ly_o y 6)), (2, .int x2), (3, .int x3), (4, .int x4)] []) {M : QM} {x2 : Int32} {x4 : Int32} {s0 : Int32} (hF : fX10_moveTo_b64 k22 M x2 x4 s0 = some z) : V x y 6 M 64 [(0, .ref (ly_o y 6)), (2, .int x2), (4, .int x4)] [.int s0] := by
  unfold fX10_moveTo_b64 at hF
  refine v_istore_n (pc := 64) (lv' := [(3, .int s0), (0, .ref (ly_o y 6)), (2, .int x2), (4, .int x4)]) K dX10_moveTo_64 3 rfl (by decide) rfl ?_
  refine v_iinc (pc := 65) (v1 := x4 + (1 : Int32)) (lv' := [(4, .int (x4 + (1 : Int32))), (3, .int s0), (0, .ref (ly_o y 6)), (2, .int x2)]) K dX10_moveTo_65 3 rfl rfl (by decide) rfl ?_
  refine v_goto (pc := 68) (tgt := 22) K dX10_moveTo_68 (by decide) ?_
  refine v_sub [2, 3, 1, 0] rfl ?_
  exact hk22 hF
def fX10_moveTo_b63 (k22 : QM → Int32 → Int32 → Int32 → Option (Int32 × QM)) (M : QM) (x2 : Int32) (x4 : Int32) : Option (Int32 × QM) := (fX10_moveTo_b64 k22 M x2 x4 (0 : Int32))
set_option maxRecDepth 100000 in
set_option maxHeartbeats 4000000 in
theorem bX10_moveTo_63 {x : Cx} {y : Ly} (l : Launch) (K : VK x l rmX10_moveTo y 6 cX10_moveTo RX10 wqX10_moveTo) (hy : y.2.2.2.2 = 0) {z : Int32 × QM} (hQ : VQ x y (some (.int z.1)) z.2 (some .int)) {k22 : QM → Int32 → Int32 → Int32 → Option (Int32 × QM)} (hk22 : ∀ {M : QM} {x2 : Int32} {x3 : Int32} {x4 : Int32}, k22 M x2 x3 x4 = some z → V x y 6 M 22 [(0, .ref (ly_o y 6)), (2, .int x2), (3, .int x3), (4, .int x4)] []) {M : QM} {x2 : Int32} {x4 : Int32} (hF : fX10_moveTo_b63 k22 M x2 x4 = some z) : V x y 6 M 63 [(0, .ref (ly_o y 6)), (2, .int x2), (4, .int x4)] [] := by
  unfold fX10_moveTo_b63 at hF
  refine v_iconst (pc := 63) (v := 0) K dX10_moveTo_63 rfl ?_
  exact bX10_moveTo_64 l K hy hQ hk22 hF
def fX10_moveTo_b71 (M : QM) (x3 : Int32) : Option (Int32 × QM) := some (x3 &&& (15 : Int32), M)
set_option maxRecDepth 100000 in
set_option maxHeartbeats 4000000 in
theorem bX10_moveTo_71 {x : Cx} {y : Ly} (l : Launch) (K : VK x l rmX10_moveTo y 6 cX10_moveTo RX10 wqX10_moveTo) (hy : y.2.2.2.2 = 0) {z : Int32 × QM} (hQ : VQ x y (some (.int z.1)) z.2 (some .int)) {M : QM} {x3 : Int32} (hF : fX10_moveTo_b71 M x3 = some z) : V x y 6 M 71 [(3, .int x3)] [] := by
  unfold fX10_moveTo_b71 at hF
  refine v_iload_n (pc := 71) K dX10_moveTo_71 0 rfl ?_
  refine v_bipush (pc := 72) (v := 15) K dX10_moveTo_72 rfl ?_
  refine v_iand (pc := 74) K dX10_moveTo_74 ?_
  have hz := (Option.some.inj hF).symm
  subst hz
  exact v_iret (pc := 75) K hQ dX10_moveTo_75
def fX10_moveTo_b22 : Nat → QM → Int32 → Int32 → Int32 → Option (Int32 × QM)
  | 0, _, _, _, _ => none
  | q + 1, M, x2, x3, x4 => if x2 ≤ x4 then (fX10_moveTo_b71 M x3) else if (8 : Int32) ≤ x4 then (fX10_moveTo_b71 M x3) else if (x3 >>> ((4 : Int32) &&& (31 : Int32))) < (0 : Int32) then (fX10_moveTo_b63 (fun M x2 x3 x4 => fX10_moveTo_b22 q M x2 x3 x4) M x2 x4) else if (4096 : Int32) ≤ (x3 >>> ((4 : Int32) &&& (31 : Int32))) then (fX10_moveTo_b63 (fun M x2 x3 x4 => fX10_moveTo_b22 q M x2 x3 x4) M x2 x4) else (if q_in (x3 >>> ((4 : Int32) &&& (31 : Int32))) 4096 then (fX10_moveTo_b64 (fun M x2 x3 x4 => fX10_moveTo_b22 q M x2 x3 x4) M x2 x4 (q_a M 6 2 (x3 >>> ((4 : Int32) &&& (31 : Int32))).toNatClampNeg)) else none)
set_option maxRecDepth 100000 in
set_option maxHeartbeats 4000000 in
theorem bX10_moveTo_22 {x : Cx} {y : Ly} (l : Launch) (K : VK x l rmX10_moveTo y 6 cX10_moveTo RX10 wqX10_moveTo) (hy : y.2.2.2.2 = 0) {z : Int32 × QM} (hQ : VQ x y (some (.int z.1)) z.2 (some .int)) : ∀ (q : Nat) {M : QM} {x2 : Int32} {x3 : Int32} {x4 : Int32},  fX10_moveTo_b22 q M x2 x3 x4 = some z → V x y 6 M 22 [(0, .ref (ly_o y 6)), (2, .int x2), (3, .int x3), (4, .int x4)] [] := by
  intro q
  induction q with
  | zero =>
    intro M x2 x3 x4  hF
    rw [fX10_moveTo_b22] at hF
    cases hF
  | succ q ih =>
    intro M x2 x3 x4  hF
    rw [fX10_moveTo_b22] at hF
    refine v_iload (pc := 22) K dX10_moveTo_22 3 rfl ?_
    refine v_iload_n (pc := 24) K dX10_moveTo_24 1 rfl ?_
    refine v_icmp_ge (pc := 25) (tgt := 71) K dX10_moveTo_25 (by decide) hF (fun c8 hF => ?_) (fun c8 hF => ?_)
    · refine v_sub [2] rfl ?_
      exact bX10_moveTo_71 l K hy hQ hF
    · refine v_iload (pc := 28) K dX10_moveTo_28 3 rfl ?_
      refine v_bipush (pc := 30) (v := 8) K dX10_moveTo_30 rfl ?_
      refine v_icmp_ge (pc := 32) (tgt := 71) K dX10_moveTo_32 (by decide) hF (fun c7 hF => ?_) (fun c7 hF => ?_)
      · refine v_sub [2] rfl ?_
        exact bX10_moveTo_71 l K hy hQ hF
      · refine v_iload_n (pc := 35) K dX10_moveTo_35 2 rfl ?_
        refine v_iconst (pc := 36) (v := 4) K dX10_moveTo_36 rfl ?_
        refine v_ishr (pc := 37) K dX10_moveTo_37 ?_
        refine v_istore (pc := 38) (lv' := [(5, .int (x3 >>> ((4 : Int32) &&& (31 : Int32)))), (0, .ref (ly_o y 6)), (2, .int x2), (3, .int x3), (4, .int x4)]) K 5 dX10_moveTo_38 (by decide) rfl ?_
        refine v_iload (pc := 40) K dX10_moveTo_40 0 rfl ?_
        refine v_if_lt (pc := 42) (tgt := 63) K dX10_moveTo_42 (by decide) hF (fun c6 hF => ?_) (fun c6 hF => ?_)
        · refine v_sub [1, 2, 4] rfl ?_
          exact bX10_moveTo_63 l K hy hQ ih hF
        · refine v_iload (pc := 45) K dX10_moveTo_45 0 rfl ?_
          refine v_sipush (pc := 47) (v := 4096) K dX10_moveTo_47 rfl ?_
          refine v_icmp_ge (pc := 50) (tgt := 63) K dX10_moveTo_50 (by decide) hF (fun c5 hF => ?_) (fun c5 hF => ?_)
          · refine v_sub [1, 2, 4] rfl ?_
            exact bX10_moveTo_63 l K hy hQ ih hF
          · refine v_aload_n (pc := 53) K dX10_moveTo_53 1 rfl ?_
            refine gX10_origins (pc := 54) K hy (by decide) jn_X10 (List.mem_cons_of_mem _ jl_X10_19) dX10_moveTo_54 ?_
            refine v_iload (pc := 57) K dX10_moveTo_57 0 rfl ?_
            refine iX10_origins (pc := 59) K hy (by decide) hF dX10_moveTo_59 (fun hi4 hF => ?_)
            refine v_goto (pc := 60) (tgt := 64) K dX10_moveTo_60 (by decide) ?_
            refine v_sub [1, 2, 4] rfl ?_
            exact bX10_moveTo_64 l K hy hQ ih hF
def fX10_moveTo (M : QM) (x1 : Int32) (x2 : Int32) : Option (Int32 × QM) := if x1 < (0 : Int32) then some ((-1 : Int32), M) else if x1 < (20 : Int32) then (if q_in x1 20 then (fX10_moveTo_b22 q_F M x2 (q_a M 6 5 x1.toNatClampNeg) (0 : Int32)) else none) else some ((-1 : Int32), M)
set_option maxRecDepth 100000 in
set_option maxHeartbeats 4000000 in
theorem bX10_moveTo_0 {x : Cx} {y : Ly} (l : Launch) (K : VK x l rmX10_moveTo y 6 cX10_moveTo RX10 wqX10_moveTo) (hy : y.2.2.2.2 = 0) {z : Int32 × QM} (hQ : VQ x y (some (.int z.1)) z.2 (some .int)) {M : QM} {x1 : Int32} {x2 : Int32} (hF : fX10_moveTo M x1 x2 = some z) : V x y 6 M 0 [(0, .ref (ly_o y 6)), (1, .int x1), (2, .int x2)] [] := by
  unfold fX10_moveTo at hF
  refine v_iload_n (pc := 0) K dX10_moveTo_0 1 rfl ?_
  refine v_if_lt (pc := 1) (tgt := 10) K dX10_moveTo_1 (by decide) hF (fun c3 hF => ?_) (fun c3 hF => ?_)
  · refine v_iconst (pc := 10) (v := -1) K dX10_moveTo_10 rfl ?_
    have hz := (Option.some.inj hF).symm
    subst hz
    exact v_iret (pc := 11) K hQ dX10_moveTo_11
  · refine v_iload_n (pc := 4) K dX10_moveTo_4 1 rfl ?_
    refine v_bipush (pc := 5) (v := 20) K dX10_moveTo_5 rfl ?_
    refine v_icmp_lt (pc := 7) (tgt := 12) K dX10_moveTo_7 (by decide) hF (fun c2 hF => ?_) (fun c2 hF => ?_)
    · refine v_aload_n (pc := 12) K dX10_moveTo_12 0 rfl ?_
      refine gX10_firstTo (pc := 13) K hy (by decide) jn_X10 (List.mem_cons_of_mem _ jl_X10_28) dX10_moveTo_13 ?_
      refine v_iload_n (pc := 16) K dX10_moveTo_16 1 rfl ?_
      refine iX10_firstTo (pc := 17) K hy (by decide) hF dX10_moveTo_17 (fun hi1 hF => ?_)
      refine v_istore_n (pc := 18) (lv' := [(3, .int (q_a M 6 5 x1.toNatClampNeg)), (0, .ref (ly_o y 6)), (1, .int x1), (2, .int x2)]) K dX10_moveTo_18 3 rfl (by decide) rfl ?_
      refine v_iconst (pc := 19) (v := 0) K dX10_moveTo_19 rfl ?_
      refine v_istore (pc := 20) (lv' := [(4, .int (0 : Int32)), (3, .int (q_a M 6 5 x1.toNatClampNeg)), (0, .ref (ly_o y 6)), (1, .int x1), (2, .int x2)]) K 4 dX10_moveTo_20 (by decide) rfl ?_
      refine v_sub [2, 4, 1, 0] rfl ?_
      exact bX10_moveTo_22 l K hy hQ q_F hF
    · refine v_iconst (pc := 10) (v := -1) K dX10_moveTo_10 rfl ?_
      have hz := (Option.some.inj hF).symm
      subst hz
      exact v_iret (pc := 11) K hQ dX10_moveTo_11
set_option maxRecDepth 100000 in
set_option maxHeartbeats 4000000 in
theorem kX10_moveTo (l : Launch) {y : Ly} (hJ : ly_J y) (hy : y.2.2.2.2 = 0) {M M1 : QM} {r : Int32} {x1 : Int32} {x2 : Int32} (hF : fX10_moveTo M x1 x2 = some (r, M1)) : Met l yX10_moveTo wqX10_moveTo rmX10_moveTo (q_P y [.ref (ly_o y 6), .int x1, .int x2] M) (q_E y (some (.int r)) M1) 0 0 (ly_A y) :=
  q_met (by decide) rfl hJ rfl rfl rfl (fun x K hQ => bX10_moveTo_0 l K hy (z := (r, M1)) hQ  hF)
