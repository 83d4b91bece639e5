-- ===== X6_turnTo (LTwoCards$Book;III)V
theorem jd_X6_turnTo : yX6_turnTo.cls = RX6 ∧ yX6_turnTo.cls ≠ "java/lang/invoke/MethodHandle" ∧ yX6_turnTo.cls ≠ "java/lang/invoke/VarHandle" ∧ (parseMethodDescriptor yX6_turnTo.desc).map (fun d => d.parameters.length) = some 4 := by decide +kernel
abbrev wqX6_turnTo : List Cond := .code yX6_turnTo cX6_turnTo 5 none :: wsL_law
abbrev rmX6_turnTo : Room := { frames := 2, cells := 0, slots := 0, locals := 43 }
def fX6_turnTo_b87 (M : QM) (o0 : Nat) (x4 : Int32) (s0 : Int32) (s1 : Int32) (so2 : Nat) : Option QM := (if q_in s1 10 then (q_t (p_a M so2 0 s1.toNatClampNeg s0) fun M35 => (if q_in (6 : Int32) 10 then (q_t (p_a M35 o0 0 (6 : Int32).toNatClampNeg x4) fun M37 => some M37) else none)) else none)
set_option maxRecDepth 100000 in
set_option maxHeartbeats 4000000 in
theorem bX6_turnTo_87 {x : Cx} {y : Ly} (l : Launch) (K : VK x l rmX6_turnTo y 5 cX6_turnTo RX6 wqX6_turnTo) (hy : y.2.2.2.2 = 0) {z : QM} (hQ : VQ x y none z none) {M : QM} {o0 : Nat} {x4 : Int32} {s0 : Int32} {s1 : Int32} {so2 : Nat} (ho0 : kls o0 = 6) (hso2 : kls so2 = 6) (hF : fX6_turnTo_b87 M o0 x4 s0 s1 so2 = some z) : V x y 5 M 87 [(0, .ref (ly_o y o0)), (4, .int x4)] [.int s0, .int s1, .ref (ly_a y so2 0)] := by
  unfold fX6_turnTo_b87 at hF
  refine uX6_values (pc := 87) K hy hso2 hF dX6_turnTo_87 (fun hi34 hF => ?_)
  refine v_nmM hF (fun M35 hF => ?_)
  refine v_aload_n (pc := 88) K dX6_turnTo_88 0 rfl ?_
  refine gX6_values (pc := 89) K hy ho0 jn_X6 (List.mem_cons_of_mem _ jl_X6_9) dX6_turnTo_89 ?_
  refine v_bipush (pc := 92) (v := 6) K dX6_turnTo_92 rfl ?_
  refine v_iload (pc := 94) K dX6_turnTo_94 1 rfl ?_
  refine uX6_values (pc := 96) K hy ho0 hF dX6_turnTo_96 (fun hi36 hF => ?_)
  refine v_nmM hF (fun M37 hF => ?_)
  have hz := (Option.some.inj hF).symm
  subst hz
  exact v_vret (pc := 97) K hQ dX6_turnTo_97
def fX6_turnTo_b67 (M : QM) (o0 : Nat) (o1 : Nat) (x2 : Int32) (x3 : Int32) (x4 : Int32) (s0 : Int32) (s1 : Int32) (so2 : Nat) : Option QM := (if q_in s1 10 then (q_t (p_a M so2 0 s1.toNatClampNeg s0) fun M29 => (q_b (fX1_isOwing M29 o1 x2 x3) fun r31 M32 => if r31 = (0 : Int32) then (fX6_turnTo_b87 M32 o0 x4 (0 : Int32) (5 : Int32) o0) else (fX6_turnTo_b87 M32 o0 x4 (1 : Int32) (5 : Int32) o0))) else none)
set_option maxRecDepth 100000 in
set_option maxHeartbeats 4000000 in
theorem bX6_turnTo_67 {x : Cx} {y : Ly} (l : Launch) (K : VK x l rmX6_turnTo y 5 cX6_turnTo RX6 wqX6_turnTo) (hy : y.2.2.2.2 = 0) {z : QM} (hQ : VQ x y none z none) {M : QM} {o0 : Nat} {o1 : Nat} {x2 : Int32} {x3 : Int32} {x4 : Int32} {s0 : Int32} {s1 : Int32} {so2 : Nat} (ho0 : kls o0 = 6) (ho1 : kls o1 = 1) (hso2 : kls so2 = 6) (hF : fX6_turnTo_b67 M o0 o1 x2 x3 x4 s0 s1 so2 = some z) : V x y 5 M 67 [(0, .ref (ly_o y o0)), (1, .ref (ly_o y o1)), (2, .int x2), (3, .int x3), (4, .int x4)] [.int s0, .int s1, .ref (ly_a y so2 0)] := by
  unfold fX6_turnTo_b67 at hF
  refine uX6_values (pc := 67) K hy hso2 hF dX6_turnTo_67 (fun hi28 hF => ?_)
  refine v_nmM hF (fun M29 hF => ?_)
  refine v_aload_n (pc := 68) K dX6_turnTo_68 0 rfl ?_
  refine gX6_values (pc := 69) K hy ho0 jn_X6 (List.mem_cons_of_mem _ jl_X6_9) dX6_turnTo_69 ?_
  refine v_iconst (pc := 72) (v := 5) K dX6_turnTo_72 rfl ?_
  refine v_aload_n (pc := 73) K dX6_turnTo_73 1 rfl ?_
  refine v_iload_n (pc := 74) K dX6_turnTo_74 2 rfl ?_
  refine v_iload_n (pc := 75) K dX6_turnTo_75 3 rfl ?_
  obtain ⟨r31, M32, hc30, hF⟩ := q_bE hF
  refine v_callV (pc := 76) (ci := 1) (As := [.int x2, .int x3]) (rest := [.int (5 : Int32), .ref (ly_a y o0 0)]) (st' := [.int r31, .int (5 : Int32), .ref (ly_a y o0 0)]) (r := some (.int r31)) (M1 := M32) K (kX1_isOwing l K.2.2.2.2.2.2.1 hy ho1 hc30) (jg_V jl_X6_25 jw_i_X1_isOwing jw_s_X1_isOwing jw_n_X1 jw_c_X1_isOwing) rfl rfl rfl jd_X1_isOwing ⟨Nat.le_of_ble_eq_true rfl, Nat.le_of_ble_eq_true rfl⟩ rfl rfl (Nat.le_of_ble_eq_true rfl) ho1 (okc_0 hy (by decide)) rfl dX6_turnTo_76 rfl ?_
  refine v_if_eq (pc := 79) (tgt := 86) K dX6_turnTo_79 (by decide) hF (fun c33 hF => ?_) (fun c33 hF => ?_)
  · refine v_iconst (pc := 86) (v := 0) K dX6_turnTo_86 rfl ?_
    refine v_sub [0, 4] rfl ?_
    exact bX6_turnTo_87 l K hy hQ ho0 ho0 hF
  · refine v_iconst (pc := 82) (v := 1) K dX6_turnTo_82 rfl ?_
    refine v_goto (pc := 83) (tgt := 87) K dX6_turnTo_83 (by decide) ?_
    refine v_sub [0, 4] rfl ?_
    exact bX6_turnTo_87 l K hy hQ ho0 ho0 hF
def fX6_turnTo (M : QM) (o0 : Nat) (o1 : Nat) (x2 : Int32) (x3 : Int32) (x4 : Int32) : Option QM := (q_b (fX1_ageOf M o1 x2) fun r2 M3 => (if q_in (0 : Int32) 10 then (q_t (p_a M3 o0 0 (0 : Int32).toNatClampNeg r2) fun M5 => (q_b (fX1_rankOf M5 o1 x2) fun r7 M8 => (if q_in (1 : Int32) 10 then (q_t (p_a M8 o0 0 (1 : Int32).toNatClampNeg r7) fun M10 => (q_b (fX1_ageOf M10 o1 x3) fun r12 M13 => (if q_in (2 : Int32) 10 then (q_t (p_a M13 o0 0 (2 : Int32).toNatClampNeg r12) fun M15 => (q_b (fX1_rankOf M15 o1 x3) fun r17 M18 => (if q_in (3 : Int32) 10 then (q_t (p_a M18 o0 0 (3 : Int32).toNatClampNeg r17) fun M20 => (q_b (fX1_houseOf M20 o1 x2) fun r22 M23 => (q_b (fX1_houseOf M23 o1 x3) fun r25 M26 => if r22 ≠ r25 then (fX6_turnTo_b67 M26 o0 o1 x2 x3 x4 (0 : Int32) (4 : Int32) o0) else (fX6_turnTo_b67 M26 o0 o1 x2 x3 x4 (1 : Int32) (4 : Int32) o0)))) else none))) else none))) else none))) else none))
set_option maxRecDepth 100000 in
set_option maxHeartbeats 4000000 in
theorem bX6_turnTo_0 {x : Cx} {y : Ly} (l : Launch) (K : VK x l rmX6_turnTo y 5 cX6_turnTo RX6 wqX6_turnTo) (hy : y.2.2.2.2 = 0) {z : QM} (hQ : VQ x y none z none) {M : QM} {o0 : Nat} {o1 : Nat} {x2 : Int32} {x3 : Int32} {x4 : Int32} (ho0 : kls o0 = 6) (ho1 : kls o1 = 1) (hF : fX6_turnTo M o0 o1 x2 x3 x4 = some z) : V x y 5 M 0 [(0, .ref (ly_o y o0)), (1, .ref (ly_o y o1)), (2, .int x2), (3, .int x3), (4, .int x4)] [] := by
  unfold fX6_turnTo at hF
  refine v_aload_n (pc := 0) K dX6_turnTo_0 0 rfl ?_
  refine gX6_values (pc := 1) K hy ho0 jn_X6 (List.mem_cons_of_mem _ jl_X6_9) dX6_turnTo_1 ?_
  refine v_iconst (pc := 4) (v := 0) K dX6_turnTo_4 rfl ?_
  refine v_aload_n (pc := 5) K dX6_turnTo_5 1 rfl ?_
  refine v_iload_n (pc := 6) K dX6_turnTo_6 2 rfl ?_
  obtain ⟨r2, M3, hc1, hF⟩ := q_bE hF
  refine v_callV (pc := 7) (ci := 1) (As := [.int x2]) (rest := [.int (0 : Int32), .ref (ly_a y o0 0)]) (st' := [.int r2, .int (0 : Int32), .ref (ly_a y o0 0)]) (r := some (.int r2)) (M1 := M3) K (kX1_ageOf l K.2.2.2.2.2.2.1 hy ho1 hc1) (jg_V jl_X6_13 jw_i_X1_ageOf jw_s_X1_ageOf jw_n_X1 jw_c_X1_ageOf) rfl rfl rfl jd_X1_ageOf ⟨Nat.le_of_ble_eq_true rfl, Nat.le_of_ble_eq_true rfl⟩ rfl rfl (Nat.le_of_ble_eq_true rfl) ho1 (okc_0 hy (by decide)) rfl dX6_turnTo_7 rfl ?_
  refine uX6_values (pc := 10) K hy ho0 hF dX6_turnTo_10 (fun hi4 hF => ?_)
  refine v_nmM hF (fun M5 hF => ?_)
  refine v_aload_n (pc := 11) K dX6_turnTo_11 0 rfl ?_
  refine gX6_values (pc := 12) K hy ho0 jn_X6 (List.mem_cons_of_mem _ jl_X6_9) dX6_turnTo_12 ?_
  refine v_iconst (pc := 15) (v := 1) K dX6_turnTo_15 rfl ?_
  refine v_aload_n (pc := 16) K dX6_turnTo_16 1 rfl ?_
  refine v_iload_n (pc := 17) K dX6_turnTo_17 2 rfl ?_
  obtain ⟨r7, M8, hc6, hF⟩ := q_bE hF
  refine v_callV (pc := 18) (ci := 1) (As := [.int x2]) (rest := [.int (1 : Int32), .ref (ly_a y o0 0)]) (st' := [.int r7, .int (1 : Int32), .ref (ly_a y o0 0)]) (r := some (.int r7)) (M1 := M8) K (kX1_rankOf l K.2.2.2.2.2.2.1 hy ho1 hc6) (jg_V jl_X6_19 jw_i_X1_rankOf jw_s_X1_rankOf jw_n_X1 jw_c_X1_rankOf) rfl rfl rfl jd_X1_rankOf ⟨Nat.le_of_ble_eq_true rfl, Nat.le_of_ble_eq_true rfl⟩ rfl rfl (Nat.le_of_ble_eq_true rfl) ho1 (okc_0 hy (by decide)) rfl dX6_turnTo_18 rfl ?_
  refine uX6_values (pc := 21) K hy ho0 hF dX6_turnTo_21 (fun hi9 hF => ?_)
  refine v_nmM hF (fun M10 hF => ?_)
  refine v_aload_n (pc := 22) K dX6_turnTo_22 0 rfl ?_
  refine gX6_values (pc := 23) K hy ho0 jn_X6 (List.mem_cons_of_mem _ jl_X6_9) dX6_turnTo_23 ?_
  refine v_iconst (pc := 26) (v := 2) K dX6_turnTo_26 rfl ?_
  refine v_aload_n (pc := 27) K dX6_turnTo_27 1 rfl ?_
  refine v_iload_n (pc := 28) K dX6_turnTo_28 3 rfl ?_
  obtain ⟨r12, M13, hc11, hF⟩ := q_bE hF
  refine v_callV (pc := 29) (ci := 1) (As := [.int x3]) (rest := [.int (2 : Int32), .ref (ly_a y o0 0)]) (st' := [.int r12, .int (2 : Int32), .ref (ly_a y o0 0)]) (r := some (.int r12)) (M1 := M13) K (kX1_ageOf l K.2.2.2.2.2.2.1 hy ho1 hc11) (jg_V jl_X6_13 jw_i_X1_ageOf jw_s_X1_ageOf jw_n_X1 jw_c_X1_ageOf) rfl rfl rfl jd_X1_ageOf ⟨Nat.le_of_ble_eq_true rfl, Nat.le_of_ble_eq_true rfl⟩ rfl rfl (Nat.le_of_ble_eq_true rfl) ho1 (okc_0 hy (by decide)) rfl dX6_turnTo_29 rfl ?_
  refine uX6_values (pc := 32) K hy ho0 hF dX6_turnTo_32 (fun hi14 hF => ?_)
  refine v_nmM hF (fun M15 hF => ?_)
  refine v_aload_n (pc := 33) K dX6_turnTo_33 0 rfl ?_
  refine gX6_values (pc := 34) K hy ho0 jn_X6 (List.mem_cons_of_mem _ jl_X6_9) dX6_turnTo_34 ?_
  refine v_iconst (pc := 37) (v := 3) K dX6_turnTo_37 rfl ?_
  refine v_aload_n (pc := 38) K dX6_turnTo_38 1 rfl ?_
  refine v_iload_n (pc := 39) K dX6_turnTo_39 3 rfl ?_
  obtain ⟨r17, M18, hc16, hF⟩ := q_bE hF
  refine v_callV (pc := 40) (ci := 1) (As := [.int x3]) (rest := [.int (3 : Int32), .ref (ly_a y o0 0)]) (st' := [.int r17, .int (3 : Int32), .ref (ly_a y o0 0)]) (r := some (.int r17)) (M1 := M18) K (kX1_rankOf l K.2.2.2.2.2.2.1 hy ho1 hc16) (jg_V jl_X6_19 jw_i_X1_rankOf jw_s_X1_rankOf jw_n_X1 jw_c_X1_rankOf) rfl rfl rfl jd_X1_rankOf ⟨Nat.le_of_ble_eq_true rfl, Nat.le_of_ble_eq_true rfl⟩ rfl rfl (Nat.le_of_ble_eq_true rfl) ho1 (okc_0 hy (by decide)) rfl dX6_turnTo_40 rfl ?_
  refine uX6_values (pc := 43) K hy ho0 hF dX6_turnTo_43 (fun hi19 hF => ?_)
  refine v_nmM hF (fun M20 hF => ?_)
  refine v_aload_n (pc := 44) K dX6_turnTo_44 0 rfl ?_
  refine gX6_values (pc := 45) K hy ho0 jn_X6 (List.mem_cons_of_mem _ jl_X6_9) dX6_turnTo_45 ?_
  refine v_iconst (pc := 48) (v := 4) K dX6_turnTo_48 rfl ?_
  refine v_aload_n (pc := 49) K dX6_turnTo_49 1 rfl ?_
  refine v_iload_n (pc := 50) K dX6_turnTo_50 2 rfl ?_
  obtain ⟨r22, M23, hc21, hF⟩ := q_bE hF
  refine v_callV (pc := 51) (ci := 1) (As := [.int x2]) (rest := [.int (4 : Int32), .ref (ly_a y o0 0)]) (st' := [.int r22, .int (4 : Int32), .ref (ly_a y o0 0)]) (r := some (.int r22)) (M1 := M23) K (kX1_houseOf l K.2.2.2.2.2.2.1 hy ho1 hc21) (jg_V jl_X6_22 jw_i_X1_houseOf jw_s_X1_houseOf jw_n_X1 jw_c_X1_houseOf) rfl rfl rfl jd_X1_houseOf ⟨Nat.le_of_ble_eq_true rfl, Nat.le_of_ble_eq_true rfl⟩ rfl rfl (Nat.le_of_ble_eq_true rfl) ho1 (okc_0 hy (by decide)) rfl dX6_turnTo_51 rfl ?_
  refine v_aload_n (pc := 54) K dX6_turnTo_54 1 rfl ?_
  refine v_iload_n (pc := 55) K dX6_turnTo_55 3 rfl ?_
  obtain ⟨r25, M26, hc24, hF⟩ := q_bE hF
  refine v_callV (pc := 56) (ci := 1) (As := [.int x3]) (rest := [.int r22, .int (4 : Int32), .ref (ly_a y o0 0)]) (st' := [.int r25, .int r22, .int (4 : Int32), .ref (ly_a y o0 0)]) (r := some (.int r25)) (M1 := M26) K (kX1_houseOf l K.2.2.2.2.2.2.1 hy ho1 hc24) (jg_V jl_X6_22 jw_i_X1_houseOf jw_s_X1_houseOf jw_n_X1 jw_c_X1_houseOf) rfl rfl rfl jd_X1_houseOf ⟨Nat.le_of_ble_eq_true rfl, Nat.le_of_ble_eq_true rfl⟩ rfl rfl (Nat.le_of_ble_eq_true rfl) ho1 (okc_0 hy (by decide)) rfl dX6_turnTo_56 rfl ?_
  refine v_icmp_ne (pc := 59) (tgt := 66) K dX6_turnTo_59 (by decide) hF (fun c27 hF => ?_) (fun c27 hF => ?_)
  · refine v_iconst (pc := 66) (v := 0) K dX6_turnTo_66 rfl ?_
    exact bX6_turnTo_67 l K hy hQ ho0 ho1 ho0 hF
  · refine v_iconst (pc := 62) (v := 1) K dX6_turnTo_62 rfl ?_
    refine v_goto (pc := 63) (tgt := 67) K dX6_turnTo_63 (by decide) ?_
    exact bX6_turnTo_67 l K hy hQ ho0 ho1 ho0 hF
set_option maxRecDepth 100000 in
set_option maxHeartbeats 4000000 in
theorem kX6_turnTo (l : Launch) {y : Ly} (hJ : ly_J y) (hy : y.2.2.2.2 = 0) {M M1 : QM} {o0 : Nat} {o1 : Nat} {x2 : Int32} {x3 : Int32} {x4 : Int32} (ho0 : kls o0 = 6) (ho1 : kls o1 = 1) (hF : fX6_turnTo M o0 o1 x2 x3 x4 = some M1) : Met l yX6_turnTo wqX6_turnTo rmX6_turnTo (q_P y [.ref (ly_o y o0), .ref (ly_o y o1), .int x2, .int x3, .int x4] M) (q_E y none M1) 0 0 (ly_A y) :=
  q_met (by decide) rfl hJ rfl rfl rfl (fun x K hQ => bX6_turnTo_0 l K hy (z := M1) hQ ho0 ho1 hF)
-- ===== X6_setHour (III)V
theorem jd_X6_setHour : yX6_setHour.cls = RX6 ∧ yX6_setHour.cls ≠ "java/lang/invoke/MethodHandle" ∧ yX6_setHour.cls ≠ "java/lang/invoke/VarHandle" ∧ (parseMethodDescriptor yX6_setHour.desc).map (fun d => d.parameters.length) = some 3 := by decide +kernel
abbrev wqX6_setHour : List Cond := .code yX6_setHour cX6_setHour 4 none :: wsL_law
abbrev rmX6_setHour : Room := { frames := 0, cells := 0, slots := 0, locals := 0 }
def fX6_setHour (M : QM) (o0 : Nat) (x1 : Int32) (x2 : Int32) (x3 : Int32) : Option QM := (if q_in (7 : Int32) 10 then (q_t (p_a M o0 0 (7 : Int32).toNatClampNeg x1) fun M2 => (if q_in (8 : Int32) 10 then (q_t (p_a M2 o0 0 (8 : Int32).toNatClampNeg x2) fun M4 => (if q_in (9 : Int32) 10 then (q_t (p_a M4 o0 0 (9 : Int32).toNatClampNeg x3) fun M6 => some M6) else none)) else none)) else none)
set_option maxRecDepth 100000 in
set_option maxHeartbeats 4000000 in
theorem bX6_setHour_0 {x : Cx} {y : Ly} (l : Launch) (K : VK x l rmX6_setHour y 4 cX6_setHour RX6 wqX6_setHour) (hy : y.2.2.2.2 = 0) {z : QM} (hQ : VQ x y none z none) {M : QM} {o0 : Nat} {x1 : Int32} {x2 : Int32} {x3 : Int32} (ho0 : kls o0 = 6) (hF : fX6_setHour M o0 x1 x2 x3 = some z) : V x y 4 M 0 [(0, .ref (ly_o y o0)), (1, .int x1), (2, .int x2), (3, .int x3)] [] := by
  unfold fX6_setHour at hF
  refine v_aload_n (pc := 0) K dX6_setHour_0 0 rfl ?_
  refine gX6_values (pc := 1) K hy ho0 jn_X6 (List.mem_cons_of_mem _ jl_X6_9) dX6_setHour_1 ?_
  refine v_bipush (pc := 4) (v := 7) K dX6_setHour_4 rfl ?_
  refine v_iload_n (pc := 6) K dX6_setHour_6 1 rfl ?_
  refine uX6_values (pc := 7) K hy ho0 hF dX6_setHour_7 (fun hi1 hF => ?_)
  refine v_nmM hF (fun M2 hF => ?_)
  refine v_aload_n (pc := 8) K dX6_setHour_8 0 rfl ?_
  refine gX6_values (pc := 9) K hy ho0 jn_X6 (List.mem_cons_of_mem _ jl_X6_9) dX6_setHour_9 ?_
  refine v_bipush (pc := 12) (v := 8) K dX6_setHour_12 rfl ?_
  refine v_iload_n (pc := 14) K dX6_setHour_14 2 rfl ?_
  refine uX6_values (pc := 15) K hy ho0 hF dX6_setHour_15 (fun hi3 hF => ?_)
  refine v_nmM hF (fun M4 hF => ?_)
  refine v_aload_n (pc := 16) K dX6_setHour_16 0 rfl ?_
  refine gX6_values (pc := 17) K hy ho0 jn_X6 (List.mem_cons_of_mem _ jl_X6_9) dX6_setHour_17 ?_
  refine v_bipush (pc := 20) (v := 9) K dX6_setHour_20 rfl ?_
  refine v_iload_n (pc := 22) K dX6_setHour_22 3 rfl ?_
  refine uX6_values (pc := 23) K hy ho0 hF dX6_setHour_23 (fun hi5 hF => ?_)
  refine v_nmM hF (fun M6 hF => ?_)
  have hz := (Option.some.inj hF).symm
  subst hz
  exact v_vret (pc := 24) K hQ dX6_setHour_24
set_option maxRecDepth 100000 in
set_option maxHeartbeats 4000000 in
theorem kX6_setHour (l : Launch) {y : Ly} (hJ : ly_J y) (hy : y.2.2.2.2 = 0) {M M1 : QM} {o0 : Nat} {x1 : Int32} {x2 : Int32} {x3 : Int32} (ho0 : kls o0 = 6) (hF : fX6_setHour M o0 x1 x2 x3 = some M1) : Met l yX6_setHour wqX6_setHour rmX6_setHour (q_P y [.ref (ly_o y o0), .int x1, .int x2, .int x3] M) (q_E y none M1) 0 0 (ly_A y) :=
  q_met (by decide) rfl hJ rfl rfl rfl (fun x K hQ => bX6_setHour_0 l K hy (z := M1) hQ ho0 hF)
-- ===== X6_valueOf (I)I
theorem jd_X6_valueOf : yX6_valueOf.cls = RX6 ∧ yX6_valueOf.cls ≠ "java/lang/invoke/MethodHandle" ∧ yX6_valueOf.cls ≠ "java/lang/invoke/VarHandle" ∧ (parseMethodDescriptor yX6_valueOf.desc).map (fun d => d.parameters.length) = some 1 := by decide +kernel
abbrev wqX6_valueOf : List Cond := .code yX6_valueOf cX6_valueOf 2 (some .int) :: wsL_law
abbrev rmX6_valueOf : Room := { frames := 0, cells := 0, slots := 0, locals := 0 }
def fX6_valueOf (M : QM) (o0 : Nat) (x1 : Int32) : Option (Int32 × QM) := if x1 < (0 : Int32) then some ((0 : Int32), M) else if (10 : Int32) ≤ x1 then some ((0 : Int32), M) else (if q_in x1 10 then some (q_a M o0 0 x1.toNatClampNeg, M) else none)
set_option maxRecDepth 100000 in
set_option maxHeartbeats 4000000 in
theorem bX6_valueOf_0 {x : Cx} {y : Ly} (l : Launch) (K : VK x l rmX6_valueOf y 2 cX6_valueOf RX6 wqX6_valueOf) (hy : y.2.2.2.2 = 0) {z : Int32 × QM} (hQ : VQ x y (some (.int z.1)) z.2 (some .int)) {M : QM} {o0 : Nat} {x1 : Int32} (ho0 : kls o0 = 6) (hF : fX6_valueOf M o0 x1 = some z) : V x y 2 M 0 [(0, .ref (ly_o y o0)), (1, .int x1)] [] := by
  unfold fX6_valueOf at hF
  refine v_iload_n (pc := 0) K dX6_valueOf_0 1 rfl ?_
  refine v_if_lt (pc := 1) (tgt := 19) K dX6_valueOf_1 (by decide) hF (fun c3 hF => ?_) (fun c3 hF => ?_)
  · refine v_iconst (pc := 19) (v := 0) K dX6_valueOf_19 rfl ?_
    have hz := (Option.some.inj hF).symm
    subst hz
    exact v_iret (pc := 20) K hQ dX6_valueOf_20
  · refine v_iload_n (pc := 4) K dX6_valueOf_4 1 rfl ?_
    refine v_bipush (pc := 5) (v := 10) K dX6_valueOf_5 rfl ?_
    refine v_icmp_ge (pc := 7) (tgt := 19) K dX6_valueOf_7 (by decide) hF (fun c2 hF => ?_) (fun c2 hF => ?_)
    · refine v_iconst (pc := 19) (v := 0) K dX6_valueOf_19 rfl ?_
      have hz := (Option.some.inj hF).symm
      subst hz
      exact v_iret (pc := 20) K hQ dX6_valueOf_20
    · refine v_aload_n (pc := 10) K dX6_valueOf_10 0 rfl ?_
      refine gX6_values (pc := 11) K hy ho0 jn_X6 (List.mem_cons_of_mem _ jl_X6_9) dX6_valueOf_11 ?_
      refine v_iload_n (pc := 14) K dX6_valueOf_14 1 rfl ?_
      refine iX6_values (pc := 15) K hy ho0 hF dX6_valueOf_15 (fun hi1 hF => ?_)
      refine v_goto (pc := 16) (tgt := 20) K dX6_valueOf_16 (by decide) ?_
      have hz := (Option.some.inj hF).symm
      subst hz
      exact v_iret (pc := 20) K hQ dX6_valueOf_20
set_option maxRecDepth 100000 in
set_option maxHeartbeats 4000000 in
theorem kX6_valueOf (l : Launch) {y : Ly} (hJ : ly_J y) (hy : y.2.2.2.2 = 0) {M M1 : QM} {r : Int32} {o0 : Nat} {x1 : Int32} (ho0 : kls o0 = 6) (hF : fX6_valueOf M o0 x1 = some (r, M1)) : Met l yX6_valueOf wqX6_valueOf rmX6_valueOf (q_P y [.ref (ly_o y o0), .int x1] M) (q_E y (some (.int r)) M1) 0 0 (ly_A y) :=
  q_met (by decide) rfl hJ rfl rfl rfl (fun x K hQ => bX6_valueOf_0 l K hy (z := (r, M1)) hQ ho0 hF)
