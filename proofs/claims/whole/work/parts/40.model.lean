-- ===== X12_in (JJJ)Z
theorem jd_X12_in : yX12_in.cls ≠ "java/lang/invoke/MethodHandle" ∧ yX12_in.cls ≠ "java/lang/invoke/VarHandle" ∧ (parseMethodDescriptor yX12_in.desc).map (fun d => d.parameters.length) = some 3 := by decide +kernel
abbrev wqX12_in : List Cond := .code yX12_in cX12_in 6 (some .boolean) :: wsL_law
abbrev rmX12_in : Room := { frames := 0, cells := 0, slots := 0, locals := 0 }
def fX12_in (M : QM) (x0 : Int64) (x2 : Int64) (x4 : Int64) : Option (Int32 × QM) := if (lg_cmp x0 x2) < (0 : Int32) then some ((0 : Int32), M) else if (0 : Int32) < (lg_cmp x0 x4) then some ((0 : Int32), M) else some ((1 : Int32), M)
set_option maxRecDepth 100000 in
set_option maxHeartbeats 4000000 in
theorem bX12_in_0 {x : Cx} {y : Ly} (l : Launch) (K : VK x l rmX12_in y 6 cX12_in RX12 wqX12_in) (hy : y.2.2.2.2 = 1) {z : Int32 × QM} (hQ : VQ x y (some (.int z.1)) z.2 (some .boolean)) {M : QM} {x0 : Int64} {x2 : Int64} {x4 : Int64} (hF : fX12_in M x0 x2 x4 = some z) : V x y 6 M 0 [(0, .long x0), (2, .long x2), (4, .long x4)] [] := by
  unfold fX12_in at hF
  refine v_lload_n (pc := 0) K dX12_in_0 0 rfl ?_
  refine v_lload_n (pc := 1) K dX12_in_1 1 rfl ?_
  refine v_lcmp (pc := 2) K dX12_in_2 ?_
  refine v_if_lt (pc := 3) (tgt := 17) K dX12_in_3 (by decide) hF (fun c2 hF => ?_) (fun c2 hF => ?_)
  · refine v_iconst (pc := 17) (v := 0) K dX12_in_17 rfl ?_
    have hz := (Option.some.inj hF).symm
    subst hz
    exact v_zret (pc := 18) K hQ rfl dX12_in_18
  · refine v_lload_n (pc := 6) K dX12_in_6 0 rfl ?_
    refine v_lload (pc := 7) K dX12_in_7 2 rfl ?_
    refine v_lcmp (pc := 9) K dX12_in_9 ?_
    refine v_if_gt (pc := 10) (tgt := 17) K dX12_in_10 (by decide) hF (fun c1 hF => ?_) (fun c1 hF => ?_)
    · refine v_iconst (pc := 17) (v := 0) K dX12_in_17 rfl ?_
      have hz := (Option.some.inj hF).symm
      subst hz
      exact v_zret (pc := 18) K hQ rfl dX12_in_18
    · refine v_iconst (pc := 13) (v := 1) K dX12_in_13 rfl ?_
      refine v_goto (pc := 14) (tgt := 18) K dX12_in_14 (by decide) ?_
      have hz := (Option.some.inj hF).symm
      subst hz
      exact v_zret (pc := 18) K hQ rfl dX12_in_18
set_option maxRecDepth 100000 in
set_option maxHeartbeats 4000000 in
theorem kX12_in (l : Launch) {y : Ly} (hJ : ly_J y) (hy : y.2.2.2.2 = 1) {M M1 : QM} {r : Int32} {x0 : Int64} {x2 : Int64} {x4 : Int64} (hF : fX12_in M x0 x2 x4 = some (r, M1)) : Met l yX12_in wqX12_in rmX12_in (q_P y [.long x0, .long x2, .long x4] M) (q_E y (some (.int r)) M1) 0 0 (ly_A y) :=
  q_met (by decide) rfl hJ rfl rfl rfl (fun x K hQ => bX12_in_0 l K hy (z := (r, M1)) hQ  hF)
-- ===== X12_person (III)I
theorem jd_X12_person : yX12_person.cls = RX12 ∧ yX12_person.cls ≠ "java/lang/invoke/MethodHandle" ∧ yX12_person.cls ≠ "java/lang/invoke/VarHandle" ∧ (parseMethodDescriptor yX12_person.desc).map (fun d => d.parameters.length) = some 3 := by decide +kernel
abbrev wqX12_person : List Cond := .code yX12_person cX12_person 5 (some .int) :: wsL_law
abbrev rmX12_person : Room := { frames := 1, cells := 0, slots := 0, locals := 25 }
def fX12_person_b149 (M : QM) : Option (Int32 × QM) := (q_t (p_i M 1000 0 ((q_i M 1000 0) + (1 : Int32))) fun M27 => some ((q_i M27 1000 0) - (1 : Int32), M27))
set_option maxRecDepth 100000 in
set_option maxHeartbeats 4000000 in
theorem bX12_person_149 {x : Cx} {y : Ly} (l : Launch) (K : VK x l rmX12_person y 5 cX12_person RX12 wqX12_person) (hy : y.2.2.2.2 = 1) {z : Int32 × QM} (hQ : VQ x y (some (.int z.1)) z.2 (some .int)) {M : QM} (hF : fX12_person_b149 M  = some z) : V x y 5 M 149 [(0, .ref (ly_o y 1000))] [] := by
  unfold fX12_person_b149 at hF
  refine v_aload_n (pc := 149) K dX12_person_149 0 rfl ?_
  refine v_dup (pc := 150) K dX12_person_150 rfl ?_
  refine gX12_people (pc := 151) K hy (by decide) jn_X12 (List.mem_cons_of_mem _ jl_X12_91) dX12_person_151 ?_
  refine v_iconst (pc := 154) (v := 1) K dX12_person_154 rfl ?_
  refine v_iadd (pc := 155) K dX12_person_155 ?_
  refine pX12_people (pc := 156) K hy (by decide) jn_X12 (List.mem_cons_of_mem _ jl_X12_91) dX12_person_156 ?_
  refine v_nmM hF (fun M27 hF => ?_)
  refine v_aload_n (pc := 159) K dX12_person_159 0 rfl ?_
  refine gX12_people (pc := 160) K hy (by decide) jn_X12 (List.mem_cons_of_mem _ jl_X12_91) dX12_person_160 ?_
  refine v_iconst (pc := 163) (v := 1) K dX12_person_163 rfl ?_
  refine v_isub (pc := 164) K dX12_person_164 ?_
  have hz := (Option.some.inj hF).symm
  subst hz
  exact v_iret (pc := 165) K hQ dX12_person_165
def fX12_person_b104 : Nat → QM → Int32 → Option (Int32 × QM)
  | 0, _, _ => none
  | q + 1, M, x4 => if (12 : Int32) ≤ x4 then (fX12_person_b149 M) else (if q_in (((12 : Int32) * (q_i M 1000 0)) + x4) 144 then (q_t (p_a M 1000 2 (((12 : Int32) * (q_i M 1000 0)) + x4).toNatClampNeg (0 : Int32)) fun M23 => (if q_in (((12 : Int32) * x4) + (q_i M23 1000 0)) 144 then (q_t (p_a M23 1000 2 (((12 : Int32) * x4) + (q_i M23 1000 0)).toNatClampNeg (0 : Int32)) fun M25 => (fX12_person_b104 q M25 (x4 + (1 : Int32)))) else none)) else none)
set_option maxRecDepth 100000 in
set_option maxHeartbeats 4000000 in
theorem bX12_person_104 {x : Cx} {y : Ly} (l : Launch) (K : VK x l rmX12_person y 5 cX12_person RX12 wqX12_person) (hy : y.2.2.2.2 = 1) {z : Int32 × QM} (hQ : VQ x y (some (.int z.1)) z.2 (some .int)) : ∀ (q : Nat) {M : QM} {x4 : Int32},  fX12_person_b104 q M x4 = some z → V x y 5 M 104 [(0, .ref (ly_o y 1000)), (4, .int x4)] [] := by
  intro q
  induction q with
  | zero =>
    intro M x4  hF
    rw [fX12_person_b104] at hF
    cases hF
  | succ q ih =>
    intro M x4  hF
    rw [fX12_person_b104] at hF
    refine v_iload (pc := 104) K dX12_person_104 1 rfl ?_
    refine v_bipush (pc := 106) (v := 12) K dX12_person_106 rfl ?_
    refine v_icmp_ge (pc := 108) (tgt := 149) K dX12_person_108 (by decide) hF (fun c26 hF => ?_) (fun c26 hF => ?_)
    · refine v_sub [0] rfl ?_
      exact bX12_person_149 l K hy hQ hF
    · refine v_aload_n (pc := 111) K dX12_person_111 0 rfl ?_
      refine gX12_owes (pc := 112) K hy (by decide) jn_X12 (List.mem_cons_of_mem _ jl_X12_13) dX12_person_112 ?_
      refine v_bipush (pc := 115) (v := 12) K dX12_person_115 rfl ?_
      refine v_aload_n (pc := 117) K dX12_person_117 0 rfl ?_
      refine gX12_people (pc := 118) K hy (by decide) jn_X12 (List.mem_cons_of_mem _ jl_X12_91) dX12_person_118 ?_
      refine v_imul (pc := 121) K dX12_person_121 ?_
      refine v_iload (pc := 122) K dX12_person_122 1 rfl ?_
      refine v_iadd (pc := 124) K dX12_person_124 ?_
      refine v_iconst (pc := 125) (v := 0) K dX12_person_125 rfl ?_
      refine uX12_owes (pc := 126) K hy (by decide) hF dX12_person_126 (fun hi22 hF => ?_)
      refine v_nmM hF (fun M23 hF => ?_)
      refine v_aload_n (pc := 127) K dX12_person_127 0 rfl ?_
      refine gX12_owes (pc := 128) K hy (by decide) jn_X12 (List.mem_cons_of_mem _ jl_X12_13) dX12_person_128 ?_
      refine v_bipush (pc := 131) (v := 12) K dX12_person_131 rfl ?_
      refine v_iload (pc := 133) K dX12_person_133 1 rfl ?_
      refine v_imul (pc := 135) K dX12_person_135 ?_
      refine v_aload_n (pc := 136) K dX12_person_136 0 rfl ?_
      refine gX12_people (pc := 137) K hy (by decide) jn_X12 (List.mem_cons_of_mem _ jl_X12_91) dX12_person_137 ?_
      refine v_iadd (pc := 140) K dX12_person_140 ?_
      refine v_iconst (pc := 141) (v := 0) K dX12_person_141 rfl ?_
      refine uX12_owes (pc := 142) K hy (by decide) hF dX12_person_142 (fun hi24 hF => ?_)
      refine v_nmM hF (fun M25 hF => ?_)
      refine v_iinc (pc := 143) (v1 := x4 + (1 : Int32)) (lv' := [(4, .int (x4 + (1 : Int32))), (0, .ref (ly_o y 1000))]) K dX12_person_143 1 rfl rfl (by decide) rfl ?_
      refine v_goto (pc := 146) (tgt := 104) K dX12_person_146 (by decide) ?_
      refine v_sub [1, 0] rfl ?_
      exact ih hF
def fX12_person (M : QM) (x1 : Int32) (x2 : Int32) (x3 : Int32) : Option (Int32 × QM) := if (q_i M 1000 0) = (12 : Int32) then some ((-1 : Int32), M) else (q_b (fX12_in M (Int32.toInt64 x1) (0 : Int64) (99 : Int64)) fun r2 M3 => if r2 = (0 : Int32) then some ((-1 : Int32), M3) else (q_b (fX12_in M3 (Int32.toInt64 x2) (0 : Int64) (9 : Int64)) fun r5 M6 => if r5 = (0 : Int32) then some ((-1 : Int32), M6) else (q_b (fX12_in M6 (Int32.toInt64 x3) (0 : Int64) (9 : Int64)) fun r8 M9 => if r8 ≠ (0 : Int32) then (if q_in ((4 : Int32) * (q_i M9 1000 0)) 48 then (q_t (p_a M9 1000 1 ((4 : Int32) * (q_i M9 1000 0)).toNatClampNeg x1) fun M11 => (if q_in (((4 : Int32) * (q_i M11 1000 0)) + (1 : Int32)) 48 then (q_t (p_a M11 1000 1 (((4 : Int32) * (q_i M11 1000 0)) + (1 : Int32)).toNatClampNeg x2) fun M13 => (if q_in (((4 : Int32) * (q_i M13 1000 0)) + (2 : Int32)) 48 then (q_t (p_a M13 1000 1 (((4 : Int32) * (q_i M13 1000 0)) + (2 : Int32)).toNatClampNeg x3) fun M15 => (if q_in (((4 : Int32) * (q_i M15 1000 0)) + (3 : Int32)) 48 then (q_t (p_a M15 1000 1 (((4 : Int32) * (q_i M15 1000 0)) + (3 : Int32)).toNatClampNeg (-1 : Int32)) fun M17 => (fX12_person_b104 q_F M17 (0 : Int32))) else none)) else none)) else none)) else none) else some ((-1 : Int32), M9))))
set_option maxRecDepth 100000 in
set_option maxHeartbeats 4000000 in
theorem bX12_person_0 {x : Cx} {y : Ly} (l : Launch) (K : VK x l rmX12_person y 5 cX12_person RX12 wqX12_person) (hy : y.2.2.2.2 = 1) {z : Int32 × QM} (hQ : VQ x y (some (.int z.1)) z.2 (some .int)) {M : QM} {x1 : Int32} {x2 : Int32} {x3 : Int32} (hF : fX12_person M x1 x2 x3 = some z) : V x y 5 M 0 [(0, .ref (ly_o y 1000)), (1, .int x1), (2, .int x2), (3, .int x3)] [] := by
  unfold fX12_person at hF
  refine v_aload_n (pc := 0) K dX12_person_0 0 rfl ?_
  refine gX12_people (pc := 1) K hy (by decide) jn_X12 (List.mem_cons_of_mem _ jl_X12_91) dX12_person_1 ?_
  refine v_bipush (pc := 4) (v := 12) K dX12_person_4 rfl ?_
  refine v_icmp_eq (pc := 6) (tgt := 45) K dX12_person_6 (by decide) hF (fun c21 hF => ?_) (fun c21 hF => ?_)
  · refine v_iconst (pc := 45) (v := -1) K dX12_person_45 rfl ?_
    have hz := (Option.some.inj hF).symm
    subst hz
    exact v_iret (pc := 46) K hQ dX12_person_46
  · refine v_iload_n (pc := 9) K dX12_person_9 1 rfl ?_
    refine v_i2l (pc := 10) K dX12_person_10 ?_
    refine v_lconst (pc := 11) (v := 0) K dX12_person_11 rfl ?_
    refine v_ldc2 (pc := 12) (v := 99) K dX12_person_12 (List.mem_cons_of_mem _ jl_X12_95) ?_
    obtain ⟨r2, M3, hc1, hF⟩ := q_bE hF
    refine v_callS (pc := 15) (As := [.long (Int32.toInt64 x1), .long (0 : Int64), .long (99 : Int64)]) (rest := []) (st' := [.int r2]) (r := some (.int r2)) (M1 := M3) K (kX12_in l K.2.2.2.2.2.2.1 hy hc1) (jg_S jl_X12_97 jw_t_X12_in jw_n_X12 jw_c_X12_in) rfl rfl rfl jd_X12_in ⟨Nat.le_of_ble_eq_true rfl, Nat.le_of_ble_eq_true rfl⟩ rfl rfl (Nat.le_of_ble_eq_true rfl) dX12_person_15 rfl ?_
    refine v_if_eq (pc := 18) (tgt := 45) K dX12_person_18 (by decide) hF (fun c20 hF => ?_) (fun c20 hF => ?_)
    · refine v_iconst (pc := 45) (v := -1) K dX12_person_45 rfl ?_
      have hz := (Option.some.inj hF).symm
      subst hz
      exact v_iret (pc := 46) K hQ dX12_person_46
    · refine v_iload_n (pc := 21) K dX12_person_21 2 rfl ?_
      refine v_i2l (pc := 22) K dX12_person_22 ?_
      refine v_lconst (pc := 23) (v := 0) K dX12_person_23 rfl ?_
      refine v_ldc2 (pc := 24) (v := 9) K dX12_person_24 (List.mem_cons_of_mem _ jl_X12_101) ?_
      obtain ⟨r5, M6, hc4, hF⟩ := q_bE hF
      refine v_callS (pc := 27) (As := [.long (Int32.toInt64 x2), .long (0 : Int64), .long (9 : Int64)]) (rest := []) (st' := [.int r5]) (r := some (.int r5)) (M1 := M6) K (kX12_in l K.2.2.2.2.2.2.1 hy hc4) (jg_S jl_X12_97 jw_t_X12_in jw_n_X12 jw_c_X12_in) rfl rfl rfl jd_X12_in ⟨Nat.le_of_ble_eq_true rfl, Nat.le_of_ble_eq_true rfl⟩ rfl rfl (Nat.le_of_ble_eq_true rfl) dX12_person_27 rfl ?_
      refine v_if_eq (pc := 30) (tgt := 45) K dX12_person_30 (by decide) hF (fun c19 hF => ?_) (fun c19 hF => ?_)
      · refine v_iconst (pc := 45) (v := -1) K dX12_person_45 rfl ?_
        have hz := (Option.some.inj hF).symm
        subst hz
        exact v_iret (pc := 46) K hQ dX12_person_46
      · refine v_iload_n (pc := 33) K dX12_person_33 3 rfl ?_
        refine v_i2l (pc := 34) K dX12_person_34 ?_
        refine v_lconst (pc := 35) (v := 0) K dX12_person_35 rfl ?_
        refine v_ldc2 (pc := 36) (v := 9) K dX12_person_36 (List.mem_cons_of_mem _ jl_X12_101) ?_
        obtain ⟨r8, M9, hc7, hF⟩ := q_bE hF
        refine v_callS (pc := 39) (As := [.long (Int32.toInt64 x3), .long (0 : Int64), .long (9 : Int64)]) (rest := []) (st' := [.int r8]) (r := some (.int r8)) (M1 := M9) K (kX12_in l K.2.2.2.2.2.2.1 hy hc7) (jg_S jl_X12_97 jw_t_X12_in jw_n_X12 jw_c_X12_in) rfl rfl rfl jd_X12_in ⟨Nat.le_of_ble_eq_true rfl, Nat.le_of_ble_eq_true rfl⟩ rfl rfl (Nat.le_of_ble_eq_true rfl) dX12_person_39 rfl ?_
        refine v_if_ne (pc := 42) (tgt := 47) K dX12_person_42 (by decide) hF (fun c18 hF => ?_) (fun c18 hF => ?_)
        · refine v_aload_n (pc := 47) K dX12_person_47 0 rfl ?_
          refine gX12_person (pc := 48) K hy (by decide) jn_X12 (List.mem_cons_of_mem _ jl_X12_7) dX12_person_48 ?_
          refine v_iconst (pc := 51) (v := 4) K dX12_person_51 rfl ?_
          refine v_aload_n (pc := 52) K dX12_person_52 0 rfl ?_
          refine gX12_people (pc := 53) K hy (by decide) jn_X12 (List.mem_cons_of_mem _ jl_X12_91) dX12_person_53 ?_
          refine v_imul (pc := 56) K dX12_person_56 ?_
          refine v_iload_n (pc := 57) K dX12_person_57 1 rfl ?_
          refine uX12_person (pc := 58) K hy (by decide) hF dX12_person_58 (fun hi10 hF => ?_)
          refine v_nmM hF (fun M11 hF => ?_)
          refine v_aload_n (pc := 59) K dX12_person_59 0 rfl ?_
          refine gX12_person (pc := 60) K hy (by decide) jn_X12 (List.mem_cons_of_mem _ jl_X12_7) dX12_person_60 ?_
          refine v_iconst (pc := 63) (v := 4) K dX12_person_63 rfl ?_
          refine v_aload_n (pc := 64) K dX12_person_64 0 rfl ?_
          refine gX12_people (pc := 65) K hy (by decide) jn_X12 (List.mem_cons_of_mem _ jl_X12_91) dX12_person_65 ?_
          refine v_imul (pc := 68) K dX12_person_68 ?_
          refine v_iconst (pc := 69) (v := 1) K dX12_person_69 rfl ?_
          refine v_iadd (pc := 70) K dX12_person_70 ?_
          refine v_iload_n (pc := 71) K dX12_person_71 2 rfl ?_
          refine uX12_person (pc := 72) K hy (by decide) hF dX12_person_72 (fun hi12 hF => ?_)
          refine v_nmM hF (fun M13 hF => ?_)
          refine v_aload_n (pc := 73) K dX12_person_73 0 rfl ?_
          refine gX12_person (pc := 74) K hy (by decide) jn_X12 (List.mem_cons_of_mem _ jl_X12_7) dX12_person_74 ?_
          refine v_iconst (pc := 77) (v := 4) K dX12_person_77 rfl ?_
          refine v_aload_n (pc := 78) K dX12_person_78 0 rfl ?_
          refine gX12_people (pc := 79) K hy (by decide) jn_X12 (List.mem_cons_of_mem _ jl_X12_91) dX12_person_79 ?_
          refine v_imul (pc := 82) K dX12_person_82 ?_
          refine v_iconst (pc := 83) (v := 2) K dX12_person_83 rfl ?_
          refine v_iadd (pc := 84) K dX12_person_84 ?_
          refine v_iload_n (pc := 85) K dX12_person_85 3 rfl ?_
          refine uX12_person (pc := 86) K hy (by decide) hF dX12_person_86 (fun hi14 hF => ?_)
          refine v_nmM hF (fun M15 hF => ?_)
          refine v_aload_n (pc := 87) K dX12_person_87 0 rfl ?_
          refine gX12_person (pc := 88) K hy (by decide) jn_X12 (List.mem_cons_of_mem _ jl_X12_7) dX12_person_88 ?_
          refine v_iconst (pc := 91) (v := 4) K dX12_person_91 rfl ?_
          refine v_aload_n (pc := 92) K dX12_person_92 0 rfl ?_
          refine gX12_people (pc := 93) K hy (by decide) jn_X12 (List.mem_cons_of_mem _ jl_X12_91) dX12_person_93 ?_
          refine v_imul (pc := 96) K dX12_person_96 ?_
          refine v_iconst (pc := 97) (v := 3) K dX12_person_97 rfl ?_
          refine v_iadd (pc := 98) K dX12_person_98 ?_
          refine v_iconst (pc := 99) (v := -1) K dX12_person_99 rfl ?_
          refine uX12_person (pc := 100) K hy (by decide) hF dX12_person_100 (fun hi16 hF => ?_)
          refine v_nmM hF (fun M17 hF => ?_)
          refine v_iconst (pc := 101) (v := 0) K dX12_person_101 rfl ?_
          refine v_istore (pc := 102) (lv' := [(4, .int (0 : Int32)), (0, .ref (ly_o y 1000)), (1, .int x1), (2, .int x2), (3, .int x3)]) K 4 dX12_person_102 (by decide) rfl ?_
          refine v_sub [1, 0] rfl ?_
          exact bX12_person_104 l K hy hQ q_F hF
        · refine v_iconst (pc := 45) (v := -1) K dX12_person_45 rfl ?_
          have hz := (Option.some.inj hF).symm
          subst hz
          exact v_iret (pc := 46) K hQ dX12_person_46
set_option maxRecDepth 100000 in
set_option maxHeartbeats 4000000 in
theorem kX12_person (l : Launch) {y : Ly} (hJ : ly_J y) (hy : y.2.2.2.2 = 1) {M M1 : QM} {r : Int32} {x1 : Int32} {x2 : Int32} {x3 : Int32} (hF : fX12_person M x1 x2 x3 = some (r, M1)) : Met l yX12_person wqX12_person rmX12_person (q_P y [.ref (ly_o y 1000), .int x1, .int x2, .int x3] M) (q_E y (some (.int r)) M1) 0 0 (ly_A y) :=
  q_met (by decide) rfl hJ rfl rfl rfl (fun x K hQ => bX12_person_0 l K hy (z := (r, M1)) hQ  hF)
-- ===== X12_isPerson (I)Z
theorem jd_X12_isPerson : yX12_isPerson.cls = RX12 ∧ yX12_isPerson.cls ≠ "java/lang/invoke/MethodHandle" ∧ yX12_isPerson.cls ≠ "java/lang/invoke/VarHandle" ∧ (parseMethodDescriptor yX12_isPerson.desc).map (fun d => d.parameters.length) = some 1 := by decide +kernel
abbrev wqX12_isPerson : List Cond := .code yX12_isPerson cX12_isPerson 2 (some .boolean) :: wsL_law
abbrev rmX12_isPerson : Room := { frames := 0, cells := 0, slots := 0, locals := 0 }
def fX12_isPerson (M : QM) (x1 : Int32) : Option (Int32 × QM) := if x1 < (0 : Int32) then some ((0 : Int32), M) else if (q_i M 1000 0) ≤ x1 then some ((0 : Int32), M) else some ((1 : Int32), M)
set_option maxRecDepth 100000 in
set_option maxHeartbeats 4000000 in
theorem bX12_isPerson_0 {x : Cx} {y : Ly} (l : Launch) (K : VK x l rmX12_isPerson y 2 cX12_isPerson RX12 wqX12_isPerson) (hy : y.2.2.2.2 = 1) {z : Int32 × QM} (hQ : VQ x y (some (.int z.1)) z.2 (some .boolean)) {M : QM} {x1 : Int32} (hF : fX12_isPerson M x1 = some z) : V x y 2 M 0 [(0, .ref (ly_o y 1000)), (1, .int x1)] [] := by
  unfold fX12_isPerson at hF
  refine v_iload_n (pc := 0) K dX12_isPerson_0 1 rfl ?_
  refine v_if_lt (pc := 1) (tgt := 16) K dX12_isPerson_1 (by decide) hF (fun c2 hF => ?_) (fun c2 hF => ?_)
  · refine v_iconst (pc := 16) (v := 0) K dX12_isPerson_16 rfl ?_
    have hz := (Option.some.inj hF).symm
    subst hz
    exact v_zret (pc := 17) K hQ rfl dX12_isPerson_17
  · refine v_iload_n (pc := 4) K dX12_isPerson_4 1 rfl ?_
    refine v_aload_n (pc := 5) K dX12_isPerson_5 0 rfl ?_
    refine gX12_people (pc := 6) K hy (by decide) jn_X12 (List.mem_cons_of_mem _ jl_X12_91) dX12_isPerson_6 ?_
    refine v_icmp_ge (pc := 9) (tgt := 16) K dX12_isPerson_9 (by decide) hF (fun c1 hF => ?_) (fun c1 hF => ?_)
    · refine v_iconst (pc := 16) (v := 0) K dX12_isPerson_16 rfl ?_
      have hz := (Option.some.inj hF).symm
      subst hz
      exact v_zret (pc := 17) K hQ rfl dX12_isPerson_17
    · refine v_iconst (pc := 12) (v := 1) K dX12_isPerson_12 rfl ?_
      refine v_goto (pc := 13) (tgt := 17) K dX12_isPerson_13 (by decide) ?_
      have hz := (Option.some.inj hF).symm
      subst hz
      exact v_zret (pc := 17) K hQ rfl dX12_isPerson_17
set_option maxRecDepth 100000 in
set_option maxHeartbeats 4000000 in
theorem kX12_isPerson (l : Launch) {y : Ly} (hJ : ly_J y) (hy : y.2.2.2.2 = 1) {M M1 : QM} {r : Int32} {x1 : Int32} (hF : fX12_isPerson M x1 = some (r, M1)) : Met l yX12_isPerson wqX12_isPerson rmX12_isPerson (q_P y [.ref (ly_o y 1000), .int x1] M) (q_E y (some (.int r)) M1) 0 0 (ly_A y) :=
  q_met (by decide) rfl hJ rfl rfl rfl (fun x K hQ => bX12_isPerson_0 l K hy (z := (r, M1)) hQ  hF)
-- ===== X12_areTwo (II)Z
theorem jd_X12_areTwo : yX12_areTwo.cls = RX12 ∧ yX12_areTwo.cls ≠ "java/lang/invoke/MethodHandle" ∧ yX12_areTwo.cls ≠ "java/lang/invoke/VarHandle" ∧ (parseMethodDescriptor yX12_areTwo.desc).map (fun d => d.parameters.length) = some 2 := by decide +kernel
abbrev wqX12_areTwo : List Cond := .code yX12_areTwo cX12_areTwo 3 (some .boolean) :: wsL_law
abbrev rmX12_areTwo : Room := { frames := 1, cells := 0, slots := 0, locals := 21 }
def fX12_areTwo (M : QM) (x1 : Int32) (x2 : Int32) : Option (Int32 × QM) := (q_b (fX12_isPerson M x1) fun r2 M3 => if r2 = (0 : Int32) then some ((0 : Int32), M3) else (q_b (fX12_isPerson M3 x2) fun r5 M6 => if r5 = (0 : Int32) then some ((0 : Int32), M6) else if x1 = x2 then some ((0 : Int32), M6) else some ((1 : Int32), M6)))
set_option maxRecDepth 100000 in
set_option maxHeartbeats 4000000 in
theorem bX12_areTwo_0 {x : Cx} {y : Ly} (l : Launch) (K : VK x l rmX12_areTwo y 3 cX12_areTwo RX12 wqX12_areTwo) (hy : y.2.2.2.2 = 1) {z : Int32 × QM} (hQ : VQ x y (some (.int z.1)) z.2 (some .boolean)) {M : QM} {x1 : Int32} {x2 : Int32} (hF : fX12_areTwo M x1 x2 = some z) : V x y 3 M 0 [(0, .ref (ly_o y 1000)), (1, .int x1), (2, .int x2)] [] := by
  unfold fX12_areTwo at hF
  refine v_aload_n (pc := 0) K dX12_areTwo_0 0 rfl ?_
  refine v_iload_n (pc := 1) K dX12_areTwo_1 1 rfl ?_
  obtain ⟨r2, M3, hc1, hF⟩ := q_bE hF
  refine v_callV (pc := 2) (ci := 11) (As := [.int x1]) (rest := []) (st' := [.int r2]) (r := some (.int r2)) (M1 := M3) K (kX12_isPerson l K.2.2.2.2.2.2.1 hy hc1) (jg_V jl_X12_103 jw_i_X12_isPerson jw_s_X12_isPerson jw_n_X12 jw_c_X12_isPerson) rfl rfl rfl jd_X12_isPerson ⟨Nat.le_of_ble_eq_true rfl, Nat.le_of_ble_eq_true rfl⟩ rfl rfl (Nat.le_of_ble_eq_true rfl) (by decide) (okc_1 hy) rfl dX12_areTwo_2 rfl ?_
  refine v_if_eq (pc := 5) (tgt := 25) K dX12_areTwo_5 (by decide) hF (fun c9 hF => ?_) (fun c9 hF => ?_)
  · refine v_iconst (pc := 25) (v := 0) K dX12_areTwo_25 rfl ?_
    have hz := (Option.some.inj hF).symm
    subst hz
    exact v_zret (pc := 26) K hQ rfl dX12_areTwo_26
  · refine v_aload_n (pc := 8) K dX12_areTwo_8 0 rfl ?_
    refine v_iload_n (pc := 9) K dX12_areTwo_9 2 rfl ?_
    obtain ⟨r5, M6, hc4, hF⟩ := q_bE hF
    refine v_callV (pc := 10) (ci := 11) (As := [.int x2]) (rest := []) (st' := [.int r5]) (r := some (.int r5)) (M1 := M6) K (kX12_isPerson l K.2.2.2.2.2.2.1 hy hc4) (jg_V jl_X12_103 jw_i_X12_isPerson jw_s_X12_isPerson jw_n_X12 jw_c_X12_isPerson) rfl rfl rfl jd_X12_isPerson ⟨Nat.le_of_ble_eq_true rfl, Nat.le_of_ble_eq_true rfl⟩ rfl rfl (Nat.le_of_ble_eq_true rfl) (by decide) (okc_1 hy) rfl dX12_areTwo_10 rfl ?_
    refine v_if_eq (pc := 13) (tgt := 25) K dX12_areTwo_13 (by decide) hF (fun c8 hF => ?_) (fun c8 hF => ?_)
    · refine v_iconst (pc := 25) (v := 0) K dX12_areTwo_25 rfl ?_
      have hz := (Option.some.inj hF).symm
      subst hz
      exact v_zret (pc := 26) K hQ rfl dX12_areTwo_26
    · refine v_iload_n (pc := 16) K dX12_areTwo_16 1 rfl ?_
      refine v_iload_n (pc := 17) K dX12_areTwo_17 2 rfl ?_
      refine v_icmp_eq (pc := 18) (tgt := 25) K dX12_areTwo_18 (by decide) hF (fun c7 hF => ?_) (fun c7 hF => ?_)
      · refine v_iconst (pc := 25) (v := 0) K dX12_areTwo_25 rfl ?_
        have hz := (Option.some.inj hF).symm
        subst hz
        exact v_zret (pc := 26) K hQ rfl dX12_areTwo_26
      · refine v_iconst (pc := 21) (v := 1) K dX12_areTwo_21 rfl ?_
        refine v_goto (pc := 22) (tgt := 26) K dX12_areTwo_22 (by decide) ?_
        have hz := (Option.some.inj hF).symm
        subst hz
        exact v_zret (pc := 26) K hQ rfl dX12_areTwo_26
set_option maxRecDepth 100000 in
set_option maxHeartbeats 4000000 in
theorem kX12_areTwo (l : Launch) {y : Ly} (hJ : ly_J y) (hy : y.2.2.2.2 = 1) {M M1 : QM} {r : Int32} {x1 : Int32} {x2 : Int32} (hF : fX12_areTwo M x1 x2 = some (r, M1)) : Met l yX12_areTwo wqX12_areTwo rmX12_areTwo (q_P y [.ref (ly_o y 1000), .int x1, .int x2] M) (q_E y (some (.int r)) M1) 0 0 (ly_A y) :=
  q_met (by decide) rfl hJ rfl rfl rfl (fun x K hQ => bX12_areTwo_0 l K hy (z := (r, M1)) hQ  hF)
-- ===== X12_debt (IIZ)Z
theorem jd_X12_debt : yX12_debt.cls = RX12 ∧ yX12_debt.cls ≠ "java/lang/invoke/MethodHandle" ∧ yX12_debt.cls ≠ "java/lang/invoke/VarHandle" ∧ (parseMethodDescriptor yX12_debt.desc).map (fun d => d.parameters.length) = some 3 := by decide +kernel
abbrev wqX12_debt : List Cond := .code yX12_debt cX12_debt 4 (some .boolean) :: wsL_law
abbrev rmX12_debt : Room := { frames := 2, cells := 0, slots := 0, locals := 43 }
def fX12_debt_b54 (M : QM) (s0 : Int32) (s1 : Int32) : Option (Int32 × QM) := (if q_in s1 144 then (q_t (p_a M 1000 2 s1.toNatClampNeg s0) fun M10 => some ((1 : Int32), M10)) else none)
set_option maxRecDepth 100000 in
set_option maxHeartbeats 4000000 in
theorem bX12_debt_54 {x : Cx} {y : Ly} (l : Launch) (K : VK x l rmX12_debt y 4 cX12_debt RX12 wqX12_debt) (hy : y.2.2.2.2 = 1) {z : Int32 × QM} (hQ : VQ x y (some (.int z.1)) z.2 (some .boolean)) {M : QM} {s0 : Int32} {s1 : Int32} (hF : fX12_debt_b54 M s0 s1 = some z) : V x y 4 M 54 [] [.int s0, .int s1, .ref (ly_a y 1000 2)] := by
  unfold fX12_debt_b54 at hF
  refine uX12_owes (pc := 54) K hy (by decide) hF dX12_debt_54 (fun hi9 hF => ?_)
  refine v_nmM hF (fun M10 hF => ?_)
  refine v_iconst (pc := 55) (v := 1) K dX12_debt_55 rfl ?_
  have hz := (Option.some.inj hF).symm
  subst hz
  exact v_zret (pc := 56) K hQ rfl dX12_debt_56
def fX12_debt_b29 (M : QM) (x1 : Int32) (x2 : Int32) (x3 : Int32) (s0 : Int32) : Option (Int32 × QM) := if s0 ≠ x3 then if x3 = (0 : Int32) then (fX12_debt_b54 M (0 : Int32) (((12 : Int32) * x1) + x2)) else (fX12_debt_b54 M (1 : Int32) (((12 : Int32) * x1) + x2)) else some ((0 : Int32), M)
set_option maxRecDepth 100000 in
set_option maxHeartbeats 4000000 in
theorem bX12_debt_29 {x : Cx} {y : Ly} (l : Launch) (K : VK x l rmX12_debt y 4 cX12_debt RX12 wqX12_debt) (hy : y.2.2.2.2 = 1) {z : Int32 × QM} (hQ : VQ x y (some (.int z.1)) z.2 (some .boolean)) {M : QM} {x1 : Int32} {x2 : Int32} {x3 : Int32} {s0 : Int32} (hF : fX12_debt_b29 M x1 x2 x3 s0 = some z) : V x y 4 M 29 [(0, .ref (ly_o y 1000)), (1, .int x1), (2, .int x2), (3, .int x3)] [.int s0] := by
  unfold fX12_debt_b29 at hF
  refine v_iload_n (pc := 29) K dX12_debt_29 3 rfl ?_
  refine v_icmp_ne (pc := 30) (tgt := 35) K dX12_debt_30 (by decide) hF (fun c8 hF => ?_) (fun c8 hF => ?_)
  · refine v_aload_n (pc := 35) K dX12_debt_35 0 rfl ?_
    refine gX12_owes (pc := 36) K hy (by decide) jn_X12 (List.mem_cons_of_mem _ jl_X12_13) dX12_debt_36 ?_
    refine v_bipush (pc := 39) (v := 12) K dX12_debt_39 rfl ?_
    refine v_iload_n (pc := 41) K dX12_debt_41 1 rfl ?_
    refine v_imul (pc := 42) K dX12_debt_42 ?_
    refine v_iload_n (pc := 43) K dX12_debt_43 2 rfl ?_
    refine v_iadd (pc := 44) K dX12_debt_44 ?_
    refine v_iload_n (pc := 45) K dX12_debt_45 3 rfl ?_
    refine v_if_eq (pc := 46) (tgt := 53) K dX12_debt_46 (by decide) hF (fun c7 hF => ?_) (fun c7 hF => ?_)
    · refine v_iconst (pc := 53) (v := 0) K dX12_debt_53 rfl ?_
      refine v_sub [] rfl ?_
      exact bX12_debt_54 l K hy hQ hF
    · refine v_iconst (pc := 49) (v := 1) K dX12_debt_49 rfl ?_
      refine v_goto (pc := 50) (tgt := 54) K dX12_debt_50 (by decide) ?_
      refine v_sub [] rfl ?_
      exact bX12_debt_54 l K hy hQ hF
  · refine v_iconst (pc := 33) (v := 0) K dX12_debt_33 rfl ?_
    have hz := (Option.some.inj hF).symm
    subst hz
    exact v_zret (pc := 34) K hQ rfl dX12_debt_34
def fX12_debt (M : QM) (x1 : Int32) (x2 : Int32) (x3 : Int32) : Option (Int32 × QM) := (q_b (fX12_areTwo M x1 x2) fun r2 M3 => if r2 = (0 : Int32) then some ((0 : Int32), M3) else (if q_in (((12 : Int32) * x1) + x2) 144 then if (q_a M3 1000 2 (((12 : Int32) * x1) + x2).toNatClampNeg) ≠ (1 : Int32) then (fX12_debt_b29 M3 x1 x2 x3 (0 : Int32)) else (fX12_debt_b29 M3 x1 x2 x3 (1 : Int32)) else none))
set_option maxRecDepth 100000 in
set_option maxHeartbeats 4000000 in
theorem bX12_debt_0 {x : Cx} {y : Ly} (l : Launch) (K : VK x l rmX12_debt y 4 cX12_debt RX12 wqX12_debt) (hy : y.2.2.2.2 = 1) {z : Int32 × QM} (hQ : VQ x y (some (.int z.1)) z.2 (some .boolean)) {M : QM} {x1 : Int32} {x2 : Int32} {x3 : Int32} (hF : fX12_debt M x1 x2 x3 = some z) : V x y 4 M 0 [(0, .ref (ly_o y 1000)), (1, .int x1), (2, .int x2), (3, .int x3)] [] := by
  unfold fX12_debt at hF
  refine v_aload_n (pc := 0) K dX12_debt_0 0 rfl ?_
  refine v_iload_n (pc := 1) K dX12_debt_1 1 rfl ?_
  refine v_iload_n (pc := 2) K dX12_debt_2 2 rfl ?_
  obtain ⟨r2, M3, hc1, hF⟩ := q_bE hF
  refine v_callV (pc := 3) (ci := 11) (As := [.int x1, .int x2]) (rest := []) (st' := [.int r2]) (r := some (.int r2)) (M1 := M3) K (kX12_areTwo l K.2.2.2.2.2.2.1 hy hc1) (jg_V jl_X12_107 jw_i_X12_areTwo jw_s_X12_areTwo jw_n_X12 jw_c_X12_areTwo) rfl rfl rfl jd_X12_areTwo ⟨Nat.le_of_ble_eq_true rfl, Nat.le_of_ble_eq_true rfl⟩ rfl rfl (Nat.le_of_ble_eq_true rfl) (by decide) (okc_1 hy) rfl dX12_debt_3 rfl ?_
  refine v_if_eq (pc := 6) (tgt := 33) K dX12_debt_6 (by decide) hF (fun c6 hF => ?_) (fun c6 hF => ?_)
  · refine v_iconst (pc := 33) (v := 0) K dX12_debt_33 rfl ?_
    have hz := (Option.some.inj hF).symm
    subst hz
    exact v_zret (pc := 34) K hQ rfl dX12_debt_34
  · refine v_aload_n (pc := 9) K dX12_debt_9 0 rfl ?_
    refine gX12_owes (pc := 10) K hy (by decide) jn_X12 (List.mem_cons_of_mem _ jl_X12_13) dX12_debt_10 ?_
    refine v_bipush (pc := 13) (v := 12) K dX12_debt_13 rfl ?_
    refine v_iload_n (pc := 15) K dX12_debt_15 1 rfl ?_
    refine v_imul (pc := 16) K dX12_debt_16 ?_
    refine v_iload_n (pc := 17) K dX12_debt_17 2 rfl ?_
    refine v_iadd (pc := 18) K dX12_debt_18 ?_
    refine iX12_owes (pc := 19) K hy (by decide) hF dX12_debt_19 (fun hi4 hF => ?_)
    refine v_iconst (pc := 20) (v := 1) K dX12_debt_20 rfl ?_
    refine v_icmp_ne (pc := 21) (tgt := 28) K dX12_debt_21 (by decide) hF (fun c5 hF => ?_) (fun c5 hF => ?_)
    · refine v_iconst (pc := 28) (v := 0) K dX12_debt_28 rfl ?_
      exact bX12_debt_29 l K hy hQ hF
    · refine v_iconst (pc := 24) (v := 1) K dX12_debt_24 rfl ?_
      refine v_goto (pc := 25) (tgt := 29) K dX12_debt_25 (by decide) ?_
      exact bX12_debt_29 l K hy hQ hF
set_option maxRecDepth 100000 in
set_option maxHeartbeats 4000000 in
theorem kX12_debt (l : Launch) {y : Ly} (hJ : ly_J y) (hy : y.2.2.2.2 = 1) {M M1 : QM} {r : Int32} {x1 : Int32} {x2 : Int32} {x3 : Int32} (hF : fX12_debt M x1 x2 x3 = some (r, M1)) : Met l yX12_debt wqX12_debt rmX12_debt (q_P y [.ref (ly_o y 1000), .int x1, .int x2, .int x3] M) (q_E y (some (.int r)) M1) 0 0 (ly_A y) :=
  q_met (by decide) rfl hJ rfl rfl rfl (fun x K hQ => bX12_debt_0 l K hy (z := (r, M1)) hQ  hF)
-- ===== X12_four (I)V
theorem jd_X12_four : yX12_four.cls = RX12 ∧ yX12_four.cls ≠ "java/lang/invoke/MethodHandle" ∧ yX12_four.cls ≠ "java/lang/invoke/VarHandle" ∧ (parseMethodDescriptor yX12_four.desc).map (fun d => d.parameters.length) = some 1 := by decide +kernel
abbrev wqX12_four : List Cond := .code yX12_four cX12_four 3 none :: wsL_law
abbrev rmX12_four : Room := { frames := 0, cells := 0, slots := 0, locals := 0 }
def fX12_four_b3 : Nat → QM → Int32 → Int32 → Option QM
  | 0, _, _, _ => none
  | q + 1, M, x1, x2 => if x2 < (0 : Int32) then some M else (if q_in (q_i M 1000 4) 400 then (q_t (p_a M 1000 3 (q_i M 1000 4).toNatClampNeg (vp_nar .byte ((Int32.toInt8 (x1 >>> (x2 &&& (31 : Int32)))).toInt32))) fun M2 => (q_t (p_i M2 1000 4 ((q_i M2 1000 4) + (1 : Int32))) fun M3 => (fX12_four_b3 q M3 x1 (x2 + (-8 : Int32))))) else none)
set_option maxRecDepth 100000 in
set_option maxHeartbeats 4000000 in
theorem bX12_four_3 {x : Cx} {y : Ly} (l : Launch) (K : VK x l rmX12_four y 3 cX12_four RX12 wqX12_four) (hy : y.2.2.2.2 = 1) {z : QM} (hQ : VQ x y none z none) : ∀ (q : Nat) {M : QM} {x1 : Int32} {x2 : Int32},  fX12_four_b3 q M x1 x2 = some z → V x y 3 M 3 [(0, .ref (ly_o y 1000)), (1, .int x1), (2, .int x2)] [] := by
  intro q
  induction q with
  | zero =>
    intro M x1 x2  hF
    rw [fX12_four_b3] at hF
    cases hF
  | succ q ih =>
    intro M x1 x2  hF
    rw [fX12_four_b3] at hF
    refine v_iload_n (pc := 3) K dX12_four_3 2 rfl ?_
    refine v_if_lt (pc := 4) (tgt := 36) K dX12_four_4 (by decide) hF (fun c4 hF => ?_) (fun c4 hF => ?_)
    · have hz := (Option.some.inj hF).symm
      subst hz
      exact v_vret (pc := 36) K hQ dX12_four_36
    · refine v_aload_n (pc := 7) K dX12_four_7 0 rfl ?_
      refine gX12_tape (pc := 8) K hy (by decide) jn_X12 (List.mem_cons_of_mem _ jl_X12_16) dX12_four_8 ?_
      refine v_aload_n (pc := 11) K dX12_four_11 0 rfl ?_
      refine gX12_taped (pc := 12) K hy (by decide) jn_X12 (List.mem_cons_of_mem _ jl_X12_111) dX12_four_12 ?_
      refine v_iload_n (pc := 15) K dX12_four_15 1 rfl ?_
      refine v_iload_n (pc := 16) K dX12_four_16 2 rfl ?_
      refine v_ishr (pc := 17) K dX12_four_17 ?_
      refine v_i2b (pc := 18) K dX12_four_18 ?_
      refine uX12_tape (pc := 19) K hy (by decide) hF dX12_four_19 (fun hi1 hF => ?_)
      refine v_nmM hF (fun M2 hF => ?_)
      refine v_aload_n (pc := 20) K dX12_four_20 0 rfl ?_
      refine v_dup (pc := 21) K dX12_four_21 rfl ?_
      refine gX12_taped (pc := 22) K hy (by decide) jn_X12 (List.mem_cons_of_mem _ jl_X12_111) dX12_four_22 ?_
      refine v_iconst (pc := 25) (v := 1) K dX12_four_25 rfl ?_
      refine v_iadd (pc := 26) K dX12_four_26 ?_
      refine pX12_taped (pc := 27) K hy (by decide) jn_X12 (List.mem_cons_of_mem _ jl_X12_111) dX12_four_27 ?_
      refine v_nmM hF (fun M3 hF => ?_)
      refine v_iinc (pc := 30) (v1 := x2 + (-8 : Int32)) (lv' := [(2, .int (x2 + (-8 : Int32))), (0, .ref (ly_o y 1000)), (1, .int x1)]) K dX12_four_30 2 rfl rfl (by decide) rfl ?_
      refine v_goto (pc := 33) (tgt := 3) K dX12_four_33 (by decide) ?_
      refine v_sub [1, 2, 0] rfl ?_
      exact ih hF
def fX12_four (M : QM) (x1 : Int32) : Option QM := (fX12_four_b3 q_F M x1 (24 : Int32))
set_option maxRecDepth 100000 in
set_option maxHeartbeats 4000000 in
theorem bX12_four_0 {x : Cx} {y : Ly} (l : Launch) (K : VK x l rmX12_four y 3 cX12_four RX12 wqX12_four) (hy : y.2.2.2.2 = 1) {z : QM} (hQ : VQ x y none z none) {M : QM} {x1 : Int32} (hF : fX12_four M x1 = some z) : V x y 3 M 0 [(0, .ref (ly_o y 1000)), (1, .int x1)] [] := by
  unfold fX12_four at hF
  refine v_bipush (pc := 0) (v := 24) K dX12_four_0 rfl ?_
  refine v_istore_n (pc := 2) (lv' := [(2, .int (24 : Int32)), (0, .ref (ly_o y 1000)), (1, .int x1)]) K dX12_four_2 2 rfl (by decide) rfl ?_
  refine v_sub [1, 2, 0] rfl ?_
  exact bX12_four_3 l K hy hQ q_F hF
set_option maxRecDepth 100000 in
set_option maxHeartbeats 4000000 in
theorem kX12_four (l : Launch) {y : Ly} (hJ : ly_J y) (hy : y.2.2.2.2 = 1) {M M1 : QM} {x1 : Int32} (hF : fX12_four M x1 = some M1) : Met l yX12_four wqX12_four rmX12_four (q_P y [.ref (ly_o y 1000), .int x1] M) (q_E y none M1) 0 0 (ly_A y) :=
  q_met (by decide) rfl hJ rfl rfl rfl (fun x K hQ => bX12_four_0 l K hy (z := M1) hQ  hF)
-- ===== X12_feed (IIIII)I
theorem jd_X12_feed : yX12_feed.cls = RX12 ∧ yX12_feed.cls ≠ "java/lang/invoke/MethodHandle" ∧ yX12_feed.cls ≠ "java/lang/invoke/VarHandle" ∧ (parseMethodDescriptor yX12_feed.desc).map (fun d => d.parameters.length) = some 5 := by decide +kernel
abbrev wqX12_feed : List Cond := .code yX12_feed cX12_feed 6 (some .int) :: wsL_law
abbrev rmX12_feed : Room := { frames := 1, cells := 0, slots := 0, locals := 22 }
def fX12_feed (M : QM) (x1 : Int32) (x2 : Int32) (x3 : Int32) (x4 : Int32) (x5 : Int32) : Option (Int32 × QM) := if ((q_i M 1000 4) + (20 : Int32)) ≤ (400 : Int32) then (q_bv (fX12_four M x1) fun M3 => (q_bv (fX12_four M3 x2) fun M6 => (q_bv (fX12_four M6 x3) fun M9 => (q_bv (fX12_four M9 x4) fun M12 => (q_bv (fX12_four M12 x5) fun M15 => some (q_i M15 1000 4, M15)))))) else some ((-1 : Int32), M)
set_option maxRecDepth 100000 in
set_option maxHeartbeats 4000000 in
theorem bX12_feed_0 {x : Cx} {y : Ly} (l : Launch) (K : VK x l rmX12_feed y 6 cX12_feed RX12 wqX12_feed) (hy : y.2.2.2.2 = 1) {z : Int32 × QM} (hQ : VQ x y (some (.int z.1)) z.2 (some .int)) {M : QM} {x1 : Int32} {x2 : Int32} {x3 : Int32} {x4 : Int32} {x5 : Int32} (hF : fX12_feed M x1 x2 x3 x4 x5 = some z) : V x y 6 M 0 [(0, .ref (ly_o y 1000)), (1, .int x1), (2, .int x2), (3, .int x3), (4, .int x4), (5, .int x5)] [] := by
  unfold fX12_feed at hF
  refine v_aload_n (pc := 0) K dX12_feed_0 0 rfl ?_
  refine gX12_taped (pc := 1) K hy (by decide) jn_X12 (List.mem_cons_of_mem _ jl_X12_111) dX12_feed_1 ?_
  refine v_bipush (pc := 4) (v := 20) K dX12_feed_4 rfl ?_
  refine v_iadd (pc := 6) K dX12_feed_6 ?_
  refine v_sipush (pc := 7) (v := 400) K dX12_feed_7 rfl ?_
  refine v_icmp_le (pc := 10) (tgt := 15) K dX12_feed_10 (by decide) hF (fun c16 hF => ?_) (fun c16 hF => ?_)
  · refine v_aload_n (pc := 15) K dX12_feed_15 0 rfl ?_
    refine v_iload_n (pc := 16) K dX12_feed_16 1 rfl ?_
    obtain ⟨M3, hc1, hF⟩ := q_bvE hF
    refine v_callV (pc := 17) (ci := 11) (As := [.int x1]) (rest := []) (st' := []) (r := none) (M1 := M3) K (kX12_four l K.2.2.2.2.2.2.1 hy hc1) (jg_V jl_X12_114 jw_i_X12_four jw_s_X12_four jw_n_X12 jw_c_X12_four) rfl rfl rfl jd_X12_four ⟨Nat.le_of_ble_eq_true rfl, Nat.le_of_ble_eq_true rfl⟩ rfl rfl (Nat.le_of_ble_eq_true rfl) (by decide) (okc_1 hy) rfl dX12_feed_17 rfl ?_
    refine v_aload_n (pc := 20) K dX12_feed_20 0 rfl ?_
    refine v_iload_n (pc := 21) K dX12_feed_21 2 rfl ?_
    obtain ⟨M6, hc4, hF⟩ := q_bvE hF
    refine v_callV (pc := 22) (ci := 11) (As := [.int x2]) (rest := []) (st' := []) (r := none) (M1 := M6) K (kX12_four l K.2.2.2.2.2.2.1 hy hc4) (jg_V jl_X12_114 jw_i_X12_four jw_s_X12_four jw_n_X12 jw_c_X12_four) rfl rfl rfl jd_X12_four ⟨Nat.le_of_ble_eq_true rfl, Nat.le_of_ble_eq_true rfl⟩ rfl rfl (Nat.le_of_ble_eq_true rfl) (by decide) (okc_1 hy) rfl dX12_feed_22 rfl ?_
    refine v_aload_n (pc := 25) K dX12_feed_25 0 rfl ?_
    refine v_iload_n (pc := 26) K dX12_feed_26 3 rfl ?_
    obtain ⟨M9, hc7, hF⟩ := q_bvE hF
    refine v_callV (pc := 27) (ci := 11) (As := [.int x3]) (rest := []) (st' := []) (r := none) (M1 := M9) K (kX12_four l K.2.2.2.2.2.2.1 hy hc7) (jg_V jl_X12_114 jw_i_X12_four jw_s_X12_four jw_n_X12 jw_c_X12_four) rfl rfl rfl jd_X12_four ⟨Nat.le_of_ble_eq_true rfl, Nat.le_of_ble_eq_true rfl⟩ rfl rfl (Nat.le_of_ble_eq_true rfl) (by decide) (okc_1 hy) rfl dX12_feed_27 rfl ?_
    refine v_aload_n (pc := 30) K dX12_feed_30 0 rfl ?_
    refine v_iload (pc := 31) K dX12_feed_31 4 rfl ?_
    obtain ⟨M12, hc10, hF⟩ := q_bvE hF
    refine v_callV (pc := 33) (ci := 11) (As := [.int x4]) (rest := []) (st' := []) (r := none) (M1 := M12) K (kX12_four l K.2.2.2.2.2.2.1 hy hc10) (jg_V jl_X12_114 jw_i_X12_four jw_s_X12_four jw_n_X12 jw_c_X12_four) rfl rfl rfl jd_X12_four ⟨Nat.le_of_ble_eq_true rfl, Nat.le_of_ble_eq_true rfl⟩ rfl rfl (Nat.le_of_ble_eq_true rfl) (by decide) (okc_1 hy) rfl dX12_feed_33 rfl ?_
    refine v_aload_n (pc := 36) K dX12_feed_36 0 rfl ?_
    refine v_iload (pc := 37) K dX12_feed_37 5 rfl ?_
    obtain ⟨M15, hc13, hF⟩ := q_bvE hF
    refine v_callV (pc := 39) (ci := 11) (As := [.int x5]) (rest := []) (st' := []) (r := none) (M1 := M15) K (kX12_four l K.2.2.2.2.2.2.1 hy hc13) (jg_V jl_X12_114 jw_i_X12_four jw_s_X12_four jw_n_X12 jw_c_X12_four) rfl rfl rfl jd_X12_four ⟨Nat.le_of_ble_eq_true rfl, Nat.le_of_ble_eq_true rfl⟩ rfl rfl (Nat.le_of_ble_eq_true rfl) (by decide) (okc_1 hy) rfl dX12_feed_39 rfl ?_
    refine v_aload_n (pc := 42) K dX12_feed_42 0 rfl ?_
    refine gX12_taped (pc := 43) K hy (by decide) jn_X12 (List.mem_cons_of_mem _ jl_X12_111) dX12_feed_43 ?_
    have hz := (Option.some.inj hF).symm
    subst hz
    exact v_iret (pc := 46) K hQ dX12_feed_46
  · refine v_iconst (pc := 13) (v := -1) K dX12_feed_13 rfl ?_
    have hz := (Option.some.inj hF).symm
    subst hz
    exact v_iret (pc := 14) K hQ dX12_feed_14
set_option maxRecDepth 100000 in
set_option maxHeartbeats 4000000 in
theorem kX12_feed (l : Launch) {y : Ly} (hJ : ly_J y) (hy : y.2.2.2.2 = 1) {M M1 : QM} {r : Int32} {x1 : Int32} {x2 : Int32} {x3 : Int32} {x4 : Int32} {x5 : Int32} (hF : fX12_feed M x1 x2 x3 x4 x5 = some (r, M1)) : Met l yX12_feed wqX12_feed rmX12_feed (q_P y [.ref (ly_o y 1000), .int x1, .int x2, .int x3, .int x4, .int x5] M) (q_E y (some (.int r)) M1) 0 0 (ly_A y) :=
  q_met (by decide) rfl hJ rfl rfl rfl (fun x K hQ => bX12_feed_0 l K hy (z := (r, M1)) hQ  hF)
-- ===== X12_end (I)I
theorem jd_X12_end : yX12_end.cls = RX12 ∧ yX12_end.cls ≠ "java/lang/invoke/MethodHandle" ∧ yX12_end.cls ≠ "java/lang/invoke/VarHandle" ∧ (parseMethodDescriptor yX12_end.desc).map (fun d => d.parameters.length) = some 1 := by decide +kernel
abbrev wqX12_end : List Cond := .code yX12_end cX12_end 2 (some .int) :: wsL_law
abbrev rmX12_end : Room := { frames := 0, cells := 0, slots := 0, locals := 0 }
def fX12_end (M : QM) (x1 : Int32) : Option (Int32 × QM) := if x1 < (0 : Int32) then some ((-1 : Int32), M) else if x1 ≤ (q_i M 1000 4) then (q_t (p_i M 1000 4 x1) fun M1 => some (x1, M1)) else some ((-1 : Int32), M)
set_option maxRecDepth 100000 in
set_option maxHeartbeats 4000000 in
theorem bX12_end_0 {x : Cx} {y : Ly} (l : Launch) (K : VK x l rmX12_end y 2 cX12_end RX12 wqX12_end) (hy : y.2.2.2.2 = 1) {z : Int32 × QM} (hQ : VQ x y (some (.int z.1)) z.2 (some .int)) {M : QM} {x1 : Int32} (hF : fX12_end M x1 = some z) : V x y 2 M 0 [(0, .ref (ly_o y 1000)), (1, .int x1)] [] := by
  unfold fX12_end at hF
  refine v_iload_n (pc := 0) K dX12_end_0 1 rfl ?_
  refine v_if_lt (pc := 1) (tgt := 12) K dX12_end_1 (by decide) hF (fun c3 hF => ?_) (fun c3 hF => ?_)
  · refine v_iconst (pc := 12) (v := -1) K dX12_end_12 rfl ?_
    have hz := (Option.some.inj hF).symm
    subst hz
    exact v_iret (pc := 13) K hQ dX12_end_13
  · refine v_iload_n (pc := 4) K dX12_end_4 1 rfl ?_
    refine v_aload_n (pc := 5) K dX12_end_5 0 rfl ?_
    refine gX12_taped (pc := 6) K hy (by decide) jn_X12 (List.mem_cons_of_mem _ jl_X12_111) dX12_end_6 ?_
    refine v_icmp_le (pc := 9) (tgt := 14) K dX12_end_9 (by decide) hF (fun c2 hF => ?_) (fun c2 hF => ?_)
    · refine v_aload_n (pc := 14) K dX12_end_14 0 rfl ?_
      refine v_iload_n (pc := 15) K dX12_end_15 1 rfl ?_
      refine pX12_taped (pc := 16) K hy (by decide) jn_X12 (List.mem_cons_of_mem _ jl_X12_111) dX12_end_16 ?_
      refine v_nmM hF (fun M1 hF => ?_)
      refine v_iload_n (pc := 19) K dX12_end_19 1 rfl ?_
      have hz := (Option.some.inj hF).symm
      subst hz
      exact v_iret (pc := 20) K hQ dX12_end_20
    · refine v_iconst (pc := 12) (v := -1) K dX12_end_12 rfl ?_
      have hz := (Option.some.inj hF).symm
      subst hz
      exact v_iret (pc := 13) K hQ dX12_end_13
set_option maxRecDepth 100000 in
set_option maxHeartbeats 4000000 in
theorem kX12_end (l : Launch) {y : Ly} (hJ : ly_J y) (hy : y.2.2.2.2 = 1) {M M1 : QM} {r : Int32} {x1 : Int32} (hF : fX12_end M x1 = some (r, M1)) : Met l yX12_end wqX12_end rmX12_end (q_P y [.ref (ly_o y 1000), .int x1] M) (q_E y (some (.int r)) M1) 0 0 (ly_A y) :=
  q_met (by decide) rfl hJ rfl rfl rfl (fun x K hQ => bX12_end_0 l K hy (z := (r, M1)) hQ  hF)
-- ===== X12_fails (II)Z
theorem jd_X12_fails : yX12_fails.cls = RX12 ∧ yX12_fails.cls ≠ "java/lang/invoke/MethodHandle" ∧ yX12_fails.cls ≠ "java/lang/invoke/VarHandle" ∧ (parseMethodDescriptor yX12_fails.desc).map (fun d => d.parameters.length) = some 2 := by decide +kernel
abbrev wqX12_fails : List Cond := .code yX12_fails cX12_fails 3 (some .boolean) :: wsL_law
abbrev rmX12_fails : Room := { frames := 0, cells := 0, slots := 0, locals := 0 }
def fX12_fails (M : QM) (x1 : Int32) (x2 : Int32) : Option (Int32 × QM) := if (q_i M 1000 15) ≠ (0 : Int32) then some ((0 : Int32), M) else (q_t (p_i M 1000 15 (((1 : Int32) + ((8 : Int32) * x2)) + x1)) fun M1 => some ((0 : Int32), M1))
set_option maxRecDepth 100000 in
set_option maxHeartbeats 4000000 in
theorem bX12_fails_0 {x : Cx} {y : Ly} (l : Launch) (K : VK x l rmX12_fails y 3 cX12_fails RX12 wqX12_fails) (hy : y.2.2.2.2 = 1) {z : Int32 × QM} (hQ : VQ x y (some (.int z.1)) z.2 (some .boolean)) {M : QM} {x1 : Int32} {x2 : Int32} (hF : fX12_fails M x1 x2 = some z) : V x y 3 M 0 [(0, .ref (ly_o y 1000)), (1, .int x1), (2, .int x2)] [] := by
  unfold fX12_fails at hF
  refine v_aload_n (pc := 0) K dX12_fails_0 0 rfl ?_
  refine gX12_wrong (pc := 1) K hy (by decide) jn_X12 (List.mem_cons_of_mem _ jl_X12_118) dX12_fails_1 ?_
  refine v_if_ne (pc := 4) (tgt := 19) K dX12_fails_4 (by decide) hF (fun c2 hF => ?_) (fun c2 hF => ?_)
  · refine v_iconst (pc := 19) (v := 0) K dX12_fails_19 rfl ?_
    have hz := (Option.some.inj hF).symm
    subst hz
    exact v_zret (pc := 20) K hQ rfl dX12_fails_20
  · refine v_aload_n (pc := 7) K dX12_fails_7 0 rfl ?_
    refine v_iconst (pc := 8) (v := 1) K dX12_fails_8 rfl ?_
    refine v_bipush (pc := 9) (v := 8) K dX12_fails_9 rfl ?_
    refine v_iload_n (pc := 11) K dX12_fails_11 2 rfl ?_
    refine v_imul (pc := 12) K dX12_fails_12 ?_
    refine v_iadd (pc := 13) K dX12_fails_13 ?_
    refine v_iload_n (pc := 14) K dX12_fails_14 1 rfl ?_
    refine v_iadd (pc := 15) K dX12_fails_15 ?_
    refine pX12_wrong (pc := 16) K hy (by decide) jn_X12 (List.mem_cons_of_mem _ jl_X12_118) dX12_fails_16 ?_
    refine v_nmM hF (fun M1 hF => ?_)
    refine v_iconst (pc := 19) (v := 0) K dX12_fails_19 rfl ?_
    have hz := (Option.some.inj hF).symm
    subst hz
    exact v_zret (pc := 20) K hQ rfl dX12_fails_20
set_option maxRecDepth 100000 in
set_option maxHeartbeats 4000000 in
theorem kX12_fails (l : Launch) {y : Ly} (hJ : ly_J y) (hy : y.2.2.2.2 = 1) {M M1 : QM} {r : Int32} {x1 : Int32} {x2 : Int32} (hF : fX12_fails M x1 x2 = some (r, M1)) : Met l yX12_fails wqX12_fails rmX12_fails (q_P y [.ref (ly_o y 1000), .int x1, .int x2] M) (q_E y (some (.int r)) M1) 0 0 (ly_A y) :=
  q_met (by decide) rfl hJ rfl rfl rfl (fun x K hQ => bX12_fails_0 l K hy (z := (r, M1)) hQ  hF)
-- ===== X12_see ()I
theorem jd_X12_see : yX12_see.cls = RX12 ∧ yX12_see.cls ≠ "java/lang/invoke/MethodHandle" ∧ yX12_see.cls ≠ "java/lang/invoke/VarHandle" ∧ (parseMethodDescriptor yX12_see.desc).map (fun d => d.parameters.length) = some 0 := by decide +kernel
abbrev wqX12_see : List Cond := .code yX12_see cX12_see 1 (some .int) :: wsL_law
abbrev rmX12_see : Room := { frames := 0, cells := 0, slots := 0, locals := 0 }
def fX12_see_b38 (M : QM) : Option (Int32 × QM) := if (q_i M 1000 4) ≤ (q_i M 1000 14) then some ((-1 : Int32), M) else (if q_in (q_i M 1000 14) 400 then some ((q_a M 1000 3 (q_i M 1000 14).toNatClampNeg) &&& (255 : Int32), M) else none)
set_option maxRecDepth 100000 in
set_option maxHeartbeats 4000000 in
theorem bX12_see_38 {x : Cx} {y : Ly} (l : Launch) (K : VK x l rmX12_see y 1 cX12_see RX12 wqX12_see) (hy : y.2.2.2.2 = 1) {z : Int32 × QM} (hQ : VQ x y (some (.int z.1)) z.2 (some .int)) {M : QM} (hF : fX12_see_b38 M  = some z) : V x y 1 M 38 [(0, .ref (ly_o y 1000))] [] := by
  unfold fX12_see_b38 at hF
  refine v_aload_n (pc := 38) K dX12_see_38 0 rfl ?_
  refine gX12_next (pc := 39) K hy (by decide) jn_X12 (List.mem_cons_of_mem _ jl_X12_121) dX12_see_39 ?_
  refine v_aload_n (pc := 42) K dX12_see_42 0 rfl ?_
  refine gX12_taped (pc := 43) K hy (by decide) jn_X12 (List.mem_cons_of_mem _ jl_X12_111) dX12_see_43 ?_
  refine v_icmp_ge (pc := 46) (tgt := 65) K dX12_see_46 (by decide) hF (fun c6 hF => ?_) (fun c6 hF => ?_)
  · refine v_iconst (pc := 65) (v := -1) K dX12_see_65 rfl ?_
    have hz := (Option.some.inj hF).symm
    subst hz
    exact v_iret (pc := 66) K hQ dX12_see_66
  · refine v_aload_n (pc := 49) K dX12_see_49 0 rfl ?_
    refine gX12_tape (pc := 50) K hy (by decide) jn_X12 (List.mem_cons_of_mem _ jl_X12_16) dX12_see_50 ?_
    refine v_aload_n (pc := 53) K dX12_see_53 0 rfl ?_
    refine gX12_next (pc := 54) K hy (by decide) jn_X12 (List.mem_cons_of_mem _ jl_X12_121) dX12_see_54 ?_
    refine iX12_tape (pc := 57) K hy (by decide) hF dX12_see_57 (fun hi5 hF => ?_)
    refine v_sipush (pc := 58) (v := 255) K dX12_see_58 rfl ?_
    refine v_iand (pc := 61) K dX12_see_61 ?_
    refine v_goto (pc := 62) (tgt := 66) K dX12_see_62 (by decide) ?_
    have hz := (Option.some.inj hF).symm
    subst hz
    exact v_iret (pc := 66) K hQ dX12_see_66
def fX12_see_b0 : Nat → QM → Option (Int32 × QM)
  | 0, _ => none
  | q + 1, M => if (q_i M 1000 4) ≤ (q_i M 1000 14) then (fX12_see_b38 M) else (if q_in (q_i M 1000 14) 400 then if (q_a M 1000 3 (q_i M 1000 14).toNatClampNeg) ≠ (32 : Int32) then (fX12_see_b38 M) else (q_t (p_i M 1000 14 ((q_i M 1000 14) + (1 : Int32))) fun M2 => (fX12_see_b0 q M2)) else none)
set_option maxRecDepth 100000 in
set_option maxHeartbeats 4000000 in
theorem bX12_see_0 {x : Cx} {y : Ly} (l : Launch) (K : VK x l rmX12_see y 1 cX12_see RX12 wqX12_see) (hy : y.2.2.2.2 = 1) {z : Int32 × QM} (hQ : VQ x y (some (.int z.1)) z.2 (some .int)) : ∀ (q : Nat) {M : QM} ,  fX12_see_b0 q M  = some z → V x y 1 M 0 [(0, .ref (ly_o y 1000))] [] := by
  intro q
  induction q with
  | zero =>
    intro M   hF
    rw [fX12_see_b0] at hF
    cases hF
  | succ q ih =>
    intro M   hF
    rw [fX12_see_b0] at hF
    refine v_aload_n (pc := 0) K dX12_see_0 0 rfl ?_
    refine gX12_next (pc := 1) K hy (by decide) jn_X12 (List.mem_cons_of_mem _ jl_X12_121) dX12_see_1 ?_
    refine v_aload_n (pc := 4) K dX12_see_4 0 rfl ?_
    refine gX12_taped (pc := 5) K hy (by decide) jn_X12 (List.mem_cons_of_mem _ jl_X12_111) dX12_see_5 ?_
    refine v_icmp_ge (pc := 8) (tgt := 38) K dX12_see_8 (by decide) hF (fun c4 hF => ?_) (fun c4 hF => ?_)
    · exact bX12_see_38 l K hy hQ hF
    · refine v_aload_n (pc := 11) K dX12_see_11 0 rfl ?_
      refine gX12_tape (pc := 12) K hy (by decide) jn_X12 (List.mem_cons_of_mem _ jl_X12_16) dX12_see_12 ?_
      refine v_aload_n (pc := 15) K dX12_see_15 0 rfl ?_
      refine gX12_next (pc := 16) K hy (by decide) jn_X12 (List.mem_cons_of_mem _ jl_X12_121) dX12_see_16 ?_
      refine iX12_tape (pc := 19) K hy (by decide) hF dX12_see_19 (fun hi1 hF => ?_)
      refine v_bipush (pc := 20) (v := 32) K dX12_see_20 rfl ?_
      refine v_icmp_ne (pc := 22) (tgt := 38) K dX12_see_22 (by decide) hF (fun c3 hF => ?_) (fun c3 hF => ?_)
      · exact bX12_see_38 l K hy hQ hF
      · refine v_aload_n (pc := 25) K dX12_see_25 0 rfl ?_
        refine v_dup (pc := 26) K dX12_see_26 rfl ?_
        refine gX12_next (pc := 27) K hy (by decide) jn_X12 (List.mem_cons_of_mem _ jl_X12_121) dX12_see_27 ?_
        refine v_iconst (pc := 30) (v := 1) K dX12_see_30 rfl ?_
        refine v_iadd (pc := 31) K dX12_see_31 ?_
        refine pX12_next (pc := 32) K hy (by decide) jn_X12 (List.mem_cons_of_mem _ jl_X12_121) dX12_see_32 ?_
        refine v_nmM hF (fun M2 hF => ?_)
        refine v_goto (pc := 35) (tgt := 0) K dX12_see_35 (by decide) ?_
        exact ih hF
def fX12_see (M : QM) : Option (Int32 × QM) := fX12_see_b0 q_F M 
set_option maxRecDepth 100000 in
set_option maxHeartbeats 4000000 in
theorem kX12_see (l : Launch) {y : Ly} (hJ : ly_J y) (hy : y.2.2.2.2 = 1) {M M1 : QM} {r : Int32} (hF : fX12_see M  = some (r, M1)) : Met l yX12_see wqX12_see rmX12_see (q_P y [.ref (ly_o y 1000)] M) (q_E y (some (.int r)) M1) 0 0 (ly_A y) :=
  q_met (by decide) rfl hJ rfl rfl rfl (fun x K hQ => bX12_see_0 l K hy (z := (r, M1)) hQ q_F  hF)
-- ===== X12_isDigit (I)Z
theorem jd_X12_isDigit : yX12_isDigit.cls = RX12 ∧ yX12_isDigit.cls ≠ "java/lang/invoke/MethodHandle" ∧ yX12_isDigit.cls ≠ "java/lang/invoke/VarHandle" ∧ (parseMethodDescriptor yX12_isDigit.desc).map (fun d => d.parameters.length) = some 1 := by decide +kernel
abbrev wqX12_isDigit : List Cond := .code yX12_isDigit cX12_isDigit 2 (some .boolean) :: wsL_law
abbrev rmX12_isDigit : Room := { frames := 0, cells := 0, slots := 0, locals := 0 }
def fX12_isDigit (M : QM) (x1 : Int32) : Option (Int32 × QM) := if (q_i M 1000 4) ≤ x1 then some ((0 : Int32), M) else (if q_in x1 400 then if (q_a M 1000 3 x1.toNatClampNeg) < (48 : Int32) then some ((0 : Int32), M) else (if q_in x1 400 then if (57 : Int32) < (q_a M 1000 3 x1.toNatClampNeg) then some ((0 : Int32), M) else some ((1 : Int32), M) else none) else none)
set_option maxRecDepth 100000 in
set_option maxHeartbeats 4000000 in
theorem bX12_isDigit_0 {x : Cx} {y : Ly} (l : Launch) (K : VK x l rmX12_isDigit y 2 cX12_isDigit RX12 wqX12_isDigit) (hy : y.2.2.2.2 = 1) {z : Int32 × QM} (hQ : VQ x y (some (.int z.1)) z.2 (some .boolean)) {M : QM} {x1 : Int32} (hF : fX12_isDigit M x1 = some z) : V x y 2 M 0 [(0, .ref (ly_o y 1000)), (1, .int x1)] [] := by
  unfold fX12_isDigit at hF
  refine v_iload_n (pc := 0) K dX12_isDigit_0 1 rfl ?_
  refine v_aload_n (pc := 1) K dX12_isDigit_1 0 rfl ?_
  refine gX12_taped (pc := 2) K hy (by decide) jn_X12 (List.mem_cons_of_mem _ jl_X12_111) dX12_isDigit_2 ?_
  refine v_icmp_ge (pc := 5) (tgt := 34) K dX12_isDigit_5 (by decide) hF (fun c5 hF => ?_) (fun c5 hF => ?_)
  · refine v_iconst (pc := 34) (v := 0) K dX12_isDigit_34 rfl ?_
    have hz := (Option.some.inj hF).symm
    subst hz
    exact v_zret (pc := 35) K hQ rfl dX12_isDigit_35
  · refine v_aload_n (pc := 8) K dX12_isDigit_8 0 rfl ?_
    refine gX12_tape (pc := 9) K hy (by decide) jn_X12 (List.mem_cons_of_mem _ jl_X12_16) dX12_isDigit_9 ?_
    refine v_iload_n (pc := 12) K dX12_isDigit_12 1 rfl ?_
    refine iX12_tape (pc := 13) K hy (by decide) hF dX12_isDigit_13 (fun hi1 hF => ?_)
    refine v_bipush (pc := 14) (v := 48) K dX12_isDigit_14 rfl ?_
    refine v_icmp_lt (pc := 16) (tgt := 34) K dX12_isDigit_16 (by decide) hF (fun c4 hF => ?_) (fun c4 hF => ?_)
    · refine v_iconst (pc := 34) (v := 0) K dX12_isDigit_34 rfl ?_
      have hz := (Option.some.inj hF).symm
      subst hz
      exact v_zret (pc := 35) K hQ rfl dX12_isDigit_35
    · refine v_aload_n (pc := 19) K dX12_isDigit_19 0 rfl ?_
      refine gX12_tape (pc := 20) K hy (by decide) jn_X12 (List.mem_cons_of_mem _ jl_X12_16) dX12_isDigit_20 ?_
      refine v_iload_n (pc := 23) K dX12_isDigit_23 1 rfl ?_
      refine iX12_tape (pc := 24) K hy (by decide) hF dX12_isDigit_24 (fun hi2 hF => ?_)
      refine v_bipush (pc := 25) (v := 57) K dX12_isDigit_25 rfl ?_
      refine v_icmp_gt (pc := 27) (tgt := 34) K dX12_isDigit_27 (by decide) hF (fun c3 hF => ?_) (fun c3 hF => ?_)
      · refine v_iconst (pc := 34) (v := 0) K dX12_isDigit_34 rfl ?_
        have hz := (Option.some.inj hF).symm
        subst hz
        exact v_zret (pc := 35) K hQ rfl dX12_isDigit_35
      · refine v_iconst (pc := 30) (v := 1) K dX12_isDigit_30 rfl ?_
        refine v_goto (pc := 31) (tgt := 35) K dX12_isDigit_31 (by decide) ?_
        have hz := (Option.some.inj hF).symm
        subst hz
        exact v_zret (pc := 35) K hQ rfl dX12_isDigit_35
set_option maxRecDepth 100000 in
set_option maxHeartbeats 4000000 in
theorem kX12_isDigit (l : Launch) {y : Ly} (hJ : ly_J y) (hy : y.2.2.2.2 = 1) {M M1 : QM} {r : Int32} {x1 : Int32} (hF : fX12_isDigit M x1 = some (r, M1)) : Met l yX12_isDigit wqX12_isDigit rmX12_isDigit (q_P y [.ref (ly_o y 1000), .int x1] M) (q_E y (some (.int r)) M1) 0 0 (ly_A y) :=
  q_met (by decide) rfl hJ rfl rfl rfl (fun x K hQ => bX12_isDigit_0 l K hy (z := (r, M1)) hQ  hF)
-- ===== X12_isLetter (I)Z
theorem jd_X12_isLetter : yX12_isLetter.cls = RX12 ∧ yX12_isLetter.cls ≠ "java/lang/invoke/MethodHandle" ∧ yX12_isLetter.cls ≠ "java/lang/invoke/VarHandle" ∧ (parseMethodDescriptor yX12_isLetter.desc).map (fun d => d.parameters.length) = some 1 := by decide +kernel
abbrev wqX12_isLetter : List Cond := .code yX12_isLetter cX12_isLetter 2 (some .boolean) :: wsL_law
abbrev rmX12_isLetter : Room := { frames := 0, cells := 0, slots := 0, locals := 0 }
def fX12_isLetter (M : QM) (x1 : Int32) : Option (Int32 × QM) := if (q_i M 1000 4) ≤ x1 then some ((0 : Int32), M) else (if q_in x1 400 then if (q_a M 1000 3 x1.toNatClampNeg) < (97 : Int32) then some ((0 : Int32), M) else (if q_in x1 400 then if (122 : Int32) < (q_a M 1000 3 x1.toNatClampNeg) then some ((0 : Int32), M) else some ((1 : Int32), M) else none) else none)
set_option maxRecDepth 100000 in
set_option maxHeartbeats 4000000 in
theorem bX12_isLetter_0 {x : Cx} {y : Ly} (l : Launch) (K : VK x l rmX12_isLetter y 2 cX12_isLetter RX12 wqX12_isLetter) (hy : y.2.2.2.2 = 1) {z : Int32 × QM} (hQ : VQ x y (some (.int z.1)) z.2 (some .boolean)) {M : QM} {x1 : Int32} (hF : fX12_isLetter M x1 = some z) : V x y 2 M 0 [(0, .ref (ly_o y 1000)), (1, .int x1)] [] := by
  unfold fX12_isLetter at hF
  refine v_iload_n (pc := 0) K dX12_isLetter_0 1 rfl ?_
  refine v_aload_n (pc := 1) K dX12_isLetter_1 0 rfl ?_
  refine gX12_taped (pc := 2) K hy (by decide) jn_X12 (List.mem_cons_of_mem _ jl_X12_111) dX12_isLetter_2 ?_
  refine v_icmp_ge (pc := 5) (tgt := 34) K dX12_isLetter_5 (by decide) hF (fun c5 hF => ?_) (fun c5 hF => ?_)
  · refine v_iconst (pc := 34) (v := 0) K dX12_isLetter_34 rfl ?_
    have hz := (Option.some.inj hF).symm
    subst hz
    exact v_zret (pc := 35) K hQ rfl dX12_isLetter_35
  · refine v_aload_n (pc := 8) K dX12_isLetter_8 0 rfl ?_
    refine gX12_tape (pc := 9) K hy (by decide) jn_X12 (List.mem_cons_of_mem _ jl_X12_16) dX12_isLetter_9 ?_
    refine v_iload_n (pc := 12) K dX12_isLetter_12 1 rfl ?_
    refine iX12_tape (pc := 13) K hy (by decide) hF dX12_isLetter_13 (fun hi1 hF => ?_)
    refine v_bipush (pc := 14) (v := 97) K dX12_isLetter_14 rfl ?_
    refine v_icmp_lt (pc := 16) (tgt := 34) K dX12_isLetter_16 (by decide) hF (fun c4 hF => ?_) (fun c4 hF => ?_)
    · refine v_iconst (pc := 34) (v := 0) K dX12_isLetter_34 rfl ?_
      have hz := (Option.some.inj hF).symm
      subst hz
      exact v_zret (pc := 35) K hQ rfl dX12_isLetter_35
    · refine v_aload_n (pc := 19) K dX12_isLetter_19 0 rfl ?_
      refine gX12_tape (pc := 20) K hy (by decide) jn_X12 (List.mem_cons_of_mem _ jl_X12_16) dX12_isLetter_20 ?_
      refine v_iload_n (pc := 23) K dX12_isLetter_23 1 rfl ?_
      refine iX12_tape (pc := 24) K hy (by decide) hF dX12_isLetter_24 (fun hi2 hF => ?_)
      refine v_bipush (pc := 25) (v := 122) K dX12_isLetter_25 rfl ?_
      refine v_icmp_gt (pc := 27) (tgt := 34) K dX12_isLetter_27 (by decide) hF (fun c3 hF => ?_) (fun c3 hF => ?_)
      · refine v_iconst (pc := 34) (v := 0) K dX12_isLetter_34 rfl ?_
        have hz := (Option.some.inj hF).symm
        subst hz
        exact v_zret (pc := 35) K hQ rfl dX12_isLetter_35
      · refine v_iconst (pc := 30) (v := 1) K dX12_isLetter_30 rfl ?_
        refine v_goto (pc := 31) (tgt := 35) K dX12_isLetter_31 (by decide) ?_
        have hz := (Option.some.inj hF).symm
        subst hz
        exact v_zret (pc := 35) K hQ rfl dX12_isLetter_35
set_option maxRecDepth 100000 in
set_option maxHeartbeats 4000000 in
theorem kX12_isLetter (l : Launch) {y : Ly} (hJ : ly_J y) (hy : y.2.2.2.2 = 1) {M M1 : QM} {r : Int32} {x1 : Int32} (hF : fX12_isLetter M x1 = some (r, M1)) : Met l yX12_isLetter wqX12_isLetter rmX12_isLetter (q_P y [.ref (ly_o y 1000), .int x1] M) (q_E y (some (.int r)) M1) 0 0 (ly_A y) :=
  q_met (by decide) rfl hJ rfl rfl rfl (fun x K hQ => bX12_isLetter_0 l K hy (z := (r, M1)) hQ  hF)
-- ===== X12_isWord (J)Z
theorem jd_X12_isWord : yX12_isWord.cls = RX12 ∧ yX12_isWord.cls ≠ "java/lang/invoke/MethodHandle" ∧ yX12_isWord.cls ≠ "java/lang/invoke/VarHandle" ∧ (parseMethodDescriptor yX12_isWord.desc).map (fun d => d.parameters.length) = some 1 := by decide +kernel
abbrev wqX12_isWord : List Cond := .code yX12_isWord cX12_isWord 6 (some .boolean) :: wsL_law
abbrev rmX12_isWord : Room := { frames := 1, cells := 0, slots := 0, locals := 21 }
def fX12_isWord_b50 (k10 : QM → Int64 → Int64 → Int32 → Option (Int32 × QM)) (M : QM) (x1 : Int64) (x3 : Int64) (x5 : Int32) : Option (Int32 × QM) := (k10 M x1 x3 (x5 + (1 : Int32)))
set_option maxRecDepth 100000 in
set_option maxHeartbeats 4000000 in
theorem bX12_isWord_50 {x : Cx} {y : Ly} (l : Launch) (K : VK x l rmX12_isWord y 6 cX12_isWord RX12 wqX12_isWord) (hy : y.2.2.2.2 = 1) {z : Int32 × QM} (hQ : VQ x y (some (.int z.1)) z.2 (some .boolean)) {k10 : QM → Int64 → Int64 → Int32 → Option (Int32 × QM)} (hk10 : ∀ {M : QM} {x1 : Int64} {x3 : Int64} {x5 : Int32}, k10 M x1 x3 x5 = some z → V x y 6 M 10 [(0, .ref (ly_o y 1000)), (1, .long x1), (3, .long x3), (5, .int x5)] []) {M : QM} {x1 : Int64} {x3 : Int64} {x5 : Int32} (hF : fX12_isWord_b50 k10 M x1 x3 x5 = some z) : V x y 6 M 50 [(0, .ref (ly_o y 1000)), (1, .long x1), (3, .long x3), (5, .int x5)] [] := by
  unfold fX12_isWord_b50 at hF
  refine v_iinc (pc := 50) (v1 := x5 + (1 : Int32)) (lv' := [(5, .int (x5 + (1 : Int32))), (0, .ref (ly_o y 1000)), (1, .long x1), (3, .long x3)]) K dX12_isWord_50 3 rfl rfl (by decide) rfl ?_
  refine v_goto (pc := 53) (tgt := 10) K dX12_isWord_53 (by decide) ?_
  refine v_sub [1, 2, 3, 0] rfl ?_
  exact hk10 hF
def fX12_isWord_b56 (M : QM) (x1 : Int64) (x3 : Int64) (x5 : Int32) : Option (Int32 × QM) := if x5 ≤ (0 : Int32) then some ((0 : Int32), M) else if (8 : Int32) ≤ x5 then some ((0 : Int32), M) else if (lg_cmp x3 x1) ≠ (0 : Int32) then some ((0 : Int32), M) else some ((1 : Int32), M)
set_option maxRecDepth 100000 in
set_option maxHeartbeats 4000000 in
theorem bX12_isWord_56 {x : Cx} {y : Ly} (l : Launch) (K : VK x l rmX12_isWord y 6 cX12_isWord RX12 wqX12_isWord) (hy : y.2.2.2.2 = 1) {z : Int32 × QM} (hQ : VQ x y (some (.int z.1)) z.2 (some .boolean)) {M : QM} {x1 : Int64} {x3 : Int64} {x5 : Int32} (hF : fX12_isWord_b56 M x1 x3 x5 = some z) : V x y 6 M 56 [(1, .long x1), (3, .long x3), (5, .int x5)] [] := by
  unfold fX12_isWord_b56 at hF
  refine v_iload (pc := 56) K dX12_isWord_56 2 rfl ?_
  refine v_if_le (pc := 58) (tgt := 78) K dX12_isWord_58 (by decide) hF (fun c13 hF => ?_) (fun c13 hF => ?_)
  · refine v_iconst (pc := 78) (v := 0) K dX12_isWord_78 rfl ?_
    have hz := (Option.some.inj hF).symm
    subst hz
    exact v_zret (pc := 79) K hQ rfl dX12_isWord_79
  · refine v_iload (pc := 61) K dX12_isWord_61 2 rfl ?_
    refine v_bipush (pc := 63) (v := 8) K dX12_isWord_63 rfl ?_
    refine v_icmp_ge (pc := 65) (tgt := 78) K dX12_isWord_65 (by decide) hF (fun c12 hF => ?_) (fun c12 hF => ?_)
    · refine v_iconst (pc := 78) (v := 0) K dX12_isWord_78 rfl ?_
      have hz := (Option.some.inj hF).symm
      subst hz
      exact v_zret (pc := 79) K hQ rfl dX12_isWord_79
    · refine v_lload_n (pc := 68) K dX12_isWord_68 1 rfl ?_
      refine v_lload_n (pc := 69) K dX12_isWord_69 0 rfl ?_
      refine v_lcmp (pc := 70) K dX12_isWord_70 ?_
      refine v_if_ne (pc := 71) (tgt := 78) K dX12_isWord_71 (by decide) hF (fun c11 hF => ?_) (fun c11 hF => ?_)
      · refine v_iconst (pc := 78) (v := 0) K dX12_isWord_78 rfl ?_
        have hz := (Option.some.inj hF).symm
        subst hz
        exact v_zret (pc := 79) K hQ rfl dX12_isWord_79
      · refine v_iconst (pc := 74) (v := 1) K dX12_isWord_74 rfl ?_
        refine v_goto (pc := 75) (tgt := 79) K dX12_isWord_75 (by decide) ?_
        have hz := (Option.some.inj hF).symm
        subst hz
        exact v_zret (pc := 79) K hQ rfl dX12_isWord_79
def fX12_isWord_b10 : Nat → QM → Int64 → Int64 → Int32 → Option (Int32 × QM)
  | 0, _, _, _, _ => none
  | q + 1, M, x1, x3, x5 => (q_b (fX12_isLetter M ((q_i M 1000 14) + x5)) fun r5 M6 => if r5 = (0 : Int32) then (fX12_isWord_b56 M6 x1 x3 x5) else if (8 : Int32) ≤ x5 then (fX12_isWord_b50 (fun M x1 x3 x5 => fX12_isWord_b10 q M x1 x3 x5) M6 x1 x3 x5) else (if q_in ((q_i M6 1000 14) + x5) 400 then (q_t ((x3 <<< (Int32.toInt64 (8 : Int32) &&& 63)) ||| (Int32.toInt64 (q_a M6 1000 3 ((q_i M6 1000 14) + x5).toNatClampNeg))) fun v8 => (fX12_isWord_b50 (fun M x1 x3 x5 => fX12_isWord_b10 q M x1 x3 x5) M6 x1 v8 x5)) else none))
set_option maxRecDepth 100000 in
set_option maxHeartbeats 4000000 in
theorem bX12_isWord_10 {x : Cx} {y : Ly} (l : Launch) (K : VK x l rmX12_isWord y 6 cX12_isWord RX12 wqX12_isWord) (hy : y.2.2.2.2 = 1) {z : Int32 × QM} (hQ : VQ x y (some (.int z.1)) z.2 (some .boolean)) : ∀ (q : Nat) {M : QM} {x1 : Int64} {x3 : Int64} {x5 : Int32},  fX12_isWord_b10 q M x1 x3 x5 = some z → V x y 6 M 10 [(0, .ref (ly_o y 1000)), (1, .long x1), (3, .long x3), (5, .int x5)] [] := by
  intro q
  induction q with
  | zero =>
    intro M x1 x3 x5  hF
    rw [fX12_isWord_b10] at hF
    cases hF
  | succ q ih =>
    intro M x1 x3 x5  hF
    rw [fX12_isWord_b10] at hF
    refine v_aload_n (pc := 10) K dX12_isWord_10 0 rfl ?_
    refine v_aload_n (pc := 11) K dX12_isWord_11 0 rfl ?_
    refine gX12_next (pc := 12) K hy (by decide) jn_X12 (List.mem_cons_of_mem _ jl_X12_121) dX12_isWord_12 ?_
    refine v_iload (pc := 15) K dX12_isWord_15 3 rfl ?_
    refine v_iadd (pc := 17) K dX12_isWord_17 ?_
    obtain ⟨r5, M6, hc4, hF⟩ := q_bE hF
    refine v_callV (pc := 18) (ci := 11) (As := [.int ((q_i M 1000 14) + x5)]) (rest := []) (st' := [.int r5]) (r := some (.int r5)) (M1 := M6) K (kX12_isLetter l K.2.2.2.2.2.2.1 hy hc4) (jg_V jl_X12_128 jw_i_X12_isLetter jw_s_X12_isLetter jw_n_X12 jw_c_X12_isLetter) rfl rfl rfl jd_X12_isLetter ⟨Nat.le_of_ble_eq_true rfl, Nat.le_of_ble_eq_true rfl⟩ rfl rfl (Nat.le_of_ble_eq_true rfl) (by decide) (okc_1 hy) rfl dX12_isWord_18 rfl ?_
    refine v_if_eq (pc := 21) (tgt := 56) K dX12_isWord_21 (by decide) hF (fun c10 hF => ?_) (fun c10 hF => ?_)
    · refine v_sub [1, 2, 3] rfl ?_
      exact bX12_isWord_56 l K hy hQ hF
    · refine v_iload (pc := 24) K dX12_isWord_24 3 rfl ?_
      refine v_bipush (pc := 26) (v := 8) K dX12_isWord_26 rfl ?_
      refine v_icmp_ge (pc := 28) (tgt := 50) K dX12_isWord_28 (by decide) hF (fun c9 hF => ?_) (fun c9 hF => ?_)
      · exact bX12_isWord_50 l K hy hQ ih hF
      · refine v_lload_n (pc := 31) K dX12_isWord_31 2 rfl ?_
        refine v_bipush (pc := 32) (v := 8) K dX12_isWord_32 rfl ?_
        refine v_lshl (pc := 34) K dX12_isWord_34 ?_
        refine v_aload_n (pc := 35) K dX12_isWord_35 0 rfl ?_
        refine gX12_tape (pc := 36) K hy (by decide) jn_X12 (List.mem_cons_of_mem _ jl_X12_16) dX12_isWord_36 ?_
        refine v_aload_n (pc := 39) K dX12_isWord_39 0 rfl ?_
        refine gX12_next (pc := 40) K hy (by decide) jn_X12 (List.mem_cons_of_mem _ jl_X12_121) dX12_isWord_40 ?_
        refine v_iload (pc := 43) K dX12_isWord_43 3 rfl ?_
        refine v_iadd (pc := 45) K dX12_isWord_45 ?_
        refine iX12_tape (pc := 46) K hy (by decide) hF dX12_isWord_46 (fun hi7 hF => ?_)
        refine v_i2l (pc := 47) K dX12_isWord_47 ?_
        refine v_lor (pc := 48) K dX12_isWord_48 ?_
        refine v_nmL hF (fun v8 hF => ?_)
        refine v_lstore_n (pc := 49) (lv' := [(3, .long v8), (0, .ref (ly_o y 1000)), (1, .long x1), (5, .int x5)]) K dX12_isWord_49 3 rfl (by decide) rfl ?_
        refine v_sub [1, 2, 0, 3] rfl ?_
        exact bX12_isWord_50 l K hy hQ ih hF
def fX12_isWord (M : QM) (x1 : Int64) : Option (Int32 × QM) := (q_b (fX12_see M) fun r2 M3 => (fX12_isWord_b10 q_F M3 x1 (0 : Int64) (0 : Int32)))
set_option maxRecDepth 100000 in
set_option maxHeartbeats 4000000 in
theorem bX12_isWord_0 {x : Cx} {y : Ly} (l : Launch) (K : VK x l rmX12_isWord y 6 cX12_isWord RX12 wqX12_isWord) (hy : y.2.2.2.2 = 1) {z : Int32 × QM} (hQ : VQ x y (some (.int z.1)) z.2 (some .boolean)) {M : QM} {x1 : Int64} (hF : fX12_isWord M x1 = some z) : V x y 6 M 0 [(0, .ref (ly_o y 1000)), (1, .long x1)] [] := by
  unfold fX12_isWord at hF
  refine v_aload_n (pc := 0) K dX12_isWord_0 0 rfl ?_
  obtain ⟨r2, M3, hc1, hF⟩ := q_bE hF
  refine v_callV (pc := 1) (ci := 11) (As := []) (rest := []) (st' := [.int r2]) (r := some (.int r2)) (M1 := M3) K (kX12_see l K.2.2.2.2.2.2.1 hy hc1) (jg_V jl_X12_124 jw_i_X12_see jw_s_X12_see jw_n_X12 jw_c_X12_see) rfl rfl rfl jd_X12_see ⟨Nat.le_of_ble_eq_true rfl, Nat.le_of_ble_eq_true rfl⟩ rfl rfl (Nat.le_of_ble_eq_true rfl) (by decide) (okc_1 hy) rfl dX12_isWord_1 rfl ?_
  refine v_pop (pc := 4) K dX12_isWord_4 rfl ?_
  refine v_lconst (pc := 5) (v := 0) K dX12_isWord_5 rfl ?_
  refine v_lstore_n (pc := 6) (lv' := [(3, .long (0 : Int64)), (0, .ref (ly_o y 1000)), (1, .long x1)]) K dX12_isWord_6 3 rfl (by decide) rfl ?_
  refine v_iconst (pc := 7) (v := 0) K dX12_isWord_7 rfl ?_
  refine v_istore (pc := 8) (lv' := [(5, .int (0 : Int32)), (3, .long (0 : Int64)), (0, .ref (ly_o y 1000)), (1, .long x1)]) K 5 dX12_isWord_8 (by decide) rfl ?_
  refine v_sub [2, 3, 1, 0] rfl ?_
  exact bX12_isWord_10 l K hy hQ q_F hF
set_option maxRecDepth 100000 in
set_option maxHeartbeats 4000000 in
theorem kX12_isWord (l : Launch) {y : Ly} (hJ : ly_J y) (hy : y.2.2.2.2 = 1) {M M1 : QM} {r : Int32} {x1 : Int64} (hF : fX12_isWord M x1 = some (r, M1)) : Met l yX12_isWord wqX12_isWord rmX12_isWord (q_P y [.ref (ly_o y 1000), .long x1] M) (q_E y (some (.int r)) M1) 0 0 (ly_A y) :=
  q_met (by decide) rfl hJ rfl rfl rfl (fun x K hQ => bX12_isWord_0 l K hy (z := (r, M1)) hQ  hF)
-- ===== X12_passWord ()V
theorem jd_X12_passWord : yX12_passWord.cls = RX12 ∧ yX12_passWord.cls ≠ "java/lang/invoke/MethodHandle" ∧ yX12_passWord.cls ≠ "java/lang/invoke/VarHandle" ∧ (parseMethodDescriptor yX12_passWord.desc).map (fun d => d.parameters.length) = some 0 := by decide +kernel
abbrev wqX12_passWord : List Cond := .code yX12_passWord cX12_passWord 1 none :: wsL_law
abbrev rmX12_passWord : Room := { frames := 1, cells := 0, slots := 0, locals := 21 }
def fX12_passWord_b0 : Nat → QM → Option QM
  | 0, _ => none
  | q + 1, M => (q_b (fX12_isLetter M (q_i M 1000 14)) fun r2 M3 => if r2 = (0 : Int32) then some M3 else (q_t (p_i M3 1000 14 ((q_i M3 1000 14) + (1 : Int32))) fun M4 => (fX12_passWord_b0 q M4)))
set_option maxRecDepth 100000 in
set_option maxHeartbeats 4000000 in
theorem bX12_passWord_0 {x : Cx} {y : Ly} (l : Launch) (K : VK x l rmX12_passWord y 1 cX12_passWord RX12 wqX12_passWord) (hy : y.2.2.2.2 = 1) {z : QM} (hQ : VQ x y none z none) : ∀ (q : Nat) {M : QM} ,  fX12_passWord_b0 q M  = some z → V x y 1 M 0 [(0, .ref (ly_o y 1000))] [] := by
  intro q
  induction q with
  | zero =>
    intro M   hF
    rw [fX12_passWord_b0] at hF
    cases hF
  | succ q ih =>
    intro M   hF
    rw [fX12_passWord_b0] at hF
    refine v_aload_n (pc := 0) K dX12_passWord_0 0 rfl ?_
    refine v_aload_n (pc := 1) K dX12_passWord_1 0 rfl ?_
    refine gX12_next (pc := 2) K hy (by decide) jn_X12 (List.mem_cons_of_mem _ jl_X12_121) dX12_passWord_2 ?_
    obtain ⟨r2, M3, hc1, hF⟩ := q_bE hF
    refine v_callV (pc := 5) (ci := 11) (As := [.int (q_i M 1000 14)]) (rest := []) (st' := [.int r2]) (r := some (.int r2)) (M1 := M3) K (kX12_isLetter l K.2.2.2.2.2.2.1 hy hc1) (jg_V jl_X12_128 jw_i_X12_isLetter jw_s_X12_isLetter jw_n_X12 jw_c_X12_isLetter) rfl rfl rfl jd_X12_isLetter ⟨Nat.le_of_ble_eq_true rfl, Nat.le_of_ble_eq_true rfl⟩ rfl rfl (Nat.le_of_ble_eq_true rfl) (by decide) (okc_1 hy) rfl dX12_passWord_5 rfl ?_
    refine v_if_eq (pc := 8) (tgt := 24) K dX12_passWord_8 (by decide) hF (fun c5 hF => ?_) (fun c5 hF => ?_)
    · have hz := (Option.some.inj hF).symm
      subst hz
      exact v_vret (pc := 24) K hQ dX12_passWord_24
    · refine v_aload_n (pc := 11) K dX12_passWord_11 0 rfl ?_
      refine v_dup (pc := 12) K dX12_passWord_12 rfl ?_
      refine gX12_next (pc := 13) K hy (by decide) jn_X12 (List.mem_cons_of_mem _ jl_X12_121) dX12_passWord_13 ?_
      refine v_iconst (pc := 16) (v := 1) K dX12_passWord_16 rfl ?_
      refine v_iadd (pc := 17) K dX12_passWord_17 ?_
      refine pX12_next (pc := 18) K hy (by decide) jn_X12 (List.mem_cons_of_mem _ jl_X12_121) dX12_passWord_18 ?_
      refine v_nmM hF (fun M4 hF => ?_)
      refine v_goto (pc := 21) (tgt := 0) K dX12_passWord_21 (by decide) ?_
      exact ih hF
def fX12_passWord (M : QM) : Option QM := fX12_passWord_b0 q_F M 
set_option maxRecDepth 100000 in
set_option maxHeartbeats 4000000 in
theorem kX12_passWord (l : Launch) {y : Ly} (hJ : ly_J y) (hy : y.2.2.2.2 = 1) {M M1 : QM} (hF : fX12_passWord M  = some M1) : Met l yX12_passWord wqX12_passWord rmX12_passWord (q_P y [.ref (ly_o y 1000)] M) (q_E y none M1) 0 0 (ly_A y) :=
  q_met (by decide) rfl hJ rfl rfl rfl (fun x K hQ => bX12_passWord_0 l K hy (z := M1) hQ q_F  hF)
-- ===== X12_takesWord (J)Z
theorem jd_X12_takesWord : yX12_takesWord.cls = RX12 ∧ yX12_takesWord.cls ≠ "java/lang/invoke/MethodHandle" ∧ yX12_takesWord.cls ≠ "java/lang/invoke/VarHandle" ∧ (parseMethodDescriptor yX12_takesWord.desc).map (fun d => d.parameters.length) = some 1 := by decide +kernel
abbrev wqX12_takesWord : List Cond := .code yX12_takesWord cX12_takesWord 3 (some .boolean) :: wsL_law
abbrev rmX12_takesWord : Room := { frames := 2, cells := 0, slots := 0, locals := 46 }
def fX12_takesWord (M : QM) (x1 : Int64) : Option (Int32 × QM) := (q_b (fX12_isWord M x1) fun r2 M3 => if r2 ≠ (0 : Int32) then (q_bv (fX12_passWord M3) fun M6 => some ((1 : Int32), M6)) else some ((0 : Int32), M3))
set_option maxRecDepth 100000 in
set_option maxHeartbeats 4000000 in
theorem bX12_takesWord_0 {x : Cx} {y : Ly} (l : Launch) (K : VK x l rmX12_takesWord y 3 cX12_takesWord RX12 wqX12_takesWord) (hy : y.2.2.2.2 = 1) {z : Int32 × QM} (hQ : VQ x y (some (.int z.1)) z.2 (some .boolean)) {M : QM} {x1 : Int64} (hF : fX12_takesWord M x1 = some z) : V x y 3 M 0 [(0, .ref (ly_o y 1000)), (1, .long x1)] [] := by
  unfold fX12_takesWord at hF
  refine v_aload_n (pc := 0) K dX12_takesWord_0 0 rfl ?_
  refine v_lload_n (pc := 1) K dX12_takesWord_1 1 rfl ?_
  obtain ⟨r2, M3, hc1, hF⟩ := q_bE hF
  refine v_callV (pc := 2) (ci := 11) (As := [.long x1]) (rest := []) (st' := [.int r2]) (r := some (.int r2)) (M1 := M3) K (kX12_isWord l K.2.2.2.2.2.2.1 hy hc1) (jg_V jl_X12_131 jw_i_X12_isWord jw_s_X12_isWord jw_n_X12 jw_c_X12_isWord) rfl rfl rfl jd_X12_isWord ⟨Nat.le_of_ble_eq_true rfl, Nat.le_of_ble_eq_true rfl⟩ rfl rfl (Nat.le_of_ble_eq_true rfl) (by decide) (okc_1 hy) rfl dX12_takesWord_2 rfl ?_
  refine v_if_ne (pc := 5) (tgt := 10) K dX12_takesWord_5 (by decide) hF (fun c7 hF => ?_) (fun c7 hF => ?_)
  · refine v_aload_n (pc := 10) K dX12_takesWord_10 0 rfl ?_
    obtain ⟨M6, hc4, hF⟩ := q_bvE hF
    refine v_callV (pc := 11) (ci := 11) (As := []) (rest := []) (st' := []) (r := none) (M1 := M6) K (kX12_passWord l K.2.2.2.2.2.2.1 hy hc4) (jg_V jl_X12_135 jw_i_X12_passWord jw_s_X12_passWord jw_n_X12 jw_c_X12_passWord) rfl rfl rfl jd_X12_passWord ⟨Nat.le_of_ble_eq_true rfl, Nat.le_of_ble_eq_true rfl⟩ rfl rfl (Nat.le_of_ble_eq_true rfl) (by decide) (okc_1 hy) rfl dX12_takesWord_11 rfl ?_
    refine v_iconst (pc := 14) (v := 1) K dX12_takesWord_14 rfl ?_
    have hz := (Option.some.inj hF).symm
    subst hz
    exact v_zret (pc := 15) K hQ rfl dX12_takesWord_15
  · refine v_iconst (pc := 8) (v := 0) K dX12_takesWord_8 rfl ?_
    have hz := (Option.some.inj hF).symm
    subst hz
    exact v_zret (pc := 9) K hQ rfl dX12_takesWord_9
set_option maxRecDepth 100000 in
set_option maxHeartbeats 4000000 in
theorem kX12_takesWord (l : Launch) {y : Ly} (hJ : ly_J y) (hy : y.2.2.2.2 = 1) {M M1 : QM} {r : Int32} {x1 : Int64} (hF : fX12_takesWord M x1 = some (r, M1)) : Met l yX12_takesWord wqX12_takesWord rmX12_takesWord (q_P y [.ref (ly_o y 1000), .long x1] M) (q_E y (some (.int r)) M1) 0 0 (ly_A y) :=
  q_met (by decide) rfl hJ rfl rfl rfl (fun x K hQ => bX12_takesWord_0 l K hy (z := (r, M1)) hQ  hF)
-- ===== X12_number (II)Z
theorem jd_X12_number : yX12_number.cls = RX12 ∧ yX12_number.cls ≠ "java/lang/invoke/MethodHandle" ∧ yX12_number.cls ≠ "java/lang/invoke/VarHandle" ∧ (parseMethodDescriptor yX12_number.desc).map (fun d => d.parameters.length) = some 2 := by decide +kernel
abbrev wqX12_number : List Cond := .code yX12_number cX12_number 5 (some .boolean) :: wsL_law
abbrev rmX12_number : Room := { frames := 1, cells := 0, slots := 0, locals := 25 }
def fX12_number_b75 (k34 : QM → Int32 → Int32 → Int32 → Int32 → Option (Int32 × QM)) (M : QM) (x1 : Int32) (x2 : Int32) (x3 : Int32) (x4 : Int32) : Option (Int32 × QM) := (q_t (p_i M 1000 14 ((q_i M 1000 14) + (1 : Int32))) fun M19 => (k34 M19 x1 x2 x3 x4))
set_option maxRecDepth 100000 in
set_option maxHeartbeats 4000000 in
theorem bX12_number_75 {x : Cx} {y : Ly} (l : Launch) (K : VK x l rmX12_number y 5 cX12_number RX12 wqX12_number) (hy : y.2.2.2.2 = 1) {z : Int32 × QM} (hQ : VQ x y (some (.int z.1)) z.2 (some .boolean)) {k34 : QM → Int32 → Int32 → Int32 → Int32 → Option (Int32 × QM)} (hk34 : ∀ {M : QM} {x1 : Int32} {x2 : Int32} {x3 : Int32} {x4 : Int32}, k34 M x1 x2 x3 x4 = some z → V x y 5 M 34 [(0, .ref (ly_o y 1000)), (1, .int x1), (2, .int x2), (3, .int x3), (4, .int x4)] []) {M : QM} {x1 : Int32} {x2 : Int32} {x3 : Int32} {x4 : Int32} (hF : fX12_number_b75 k34 M x1 x2 x3 x4 = some z) : V x y 5 M 75 [(0, .ref (ly_o y 1000)), (1, .int x1), (2, .int x2), (3, .int x3), (4, .int x4)] [] := by
  unfold fX12_number_b75 at hF
  refine v_aload_n (pc := 75) K dX12_number_75 0 rfl ?_
  refine v_dup (pc := 76) K dX12_number_76 rfl ?_
  refine gX12_next (pc := 77) K hy (by decide) jn_X12 (List.mem_cons_of_mem _ jl_X12_121) dX12_number_77 ?_
  refine v_iconst (pc := 80) (v := 1) K dX12_number_80 rfl ?_
  refine v_iadd (pc := 81) K dX12_number_81 ?_
  refine pX12_next (pc := 82) K hy (by decide) jn_X12 (List.mem_cons_of_mem _ jl_X12_121) dX12_number_82 ?_
  refine v_nmM hF (fun M19 hF => ?_)
  refine v_goto (pc := 85) (tgt := 34) K dX12_number_85 (by decide) ?_
  exact hk34 hF
def fX12_number_b117 (M : QM) (x3 : Int32) : Option (Int32 × QM) := (q_b (fX12_fails M (1 : Int32) x3) fun r27 M28 => if r27 = (0 : Int32) then some ((0 : Int32), M28) else some ((1 : Int32), M28))
set_option maxRecDepth 100000 in
set_option maxHeartbeats 4000000 in
theorem bX12_number_117 {x : Cx} {y : Ly} (l : Launch) (K : VK x l rmX12_number y 5 cX12_number RX12 wqX12_number) (hy : y.2.2.2.2 = 1) {z : Int32 × QM} (hQ : VQ x y (some (.int z.1)) z.2 (some .boolean)) {M : QM} {x3 : Int32} (hF : fX12_number_b117 M x3 = some z) : V x y 5 M 117 [(0, .ref (ly_o y 1000)), (3, .int x3)] [] := by
  unfold fX12_number_b117 at hF
  refine v_aload_n (pc := 117) K dX12_number_117 0 rfl ?_
  refine v_iconst (pc := 118) (v := 1) K dX12_number_118 rfl ?_
  refine v_iload_n (pc := 119) K dX12_number_119 1 rfl ?_
  obtain ⟨r27, M28, hc26, hF⟩ := q_bE hF
  refine v_callV (pc := 120) (ci := 11) (As := [.int (1 : Int32), .int x3]) (rest := []) (st' := [.int r27]) (r := some (.int r27)) (M1 := M28) K (kX12_fails l K.2.2.2.2.2.2.1 hy hc26) (jg_V jl_X12_141 jw_i_X12_fails jw_s_X12_fails jw_n_X12 jw_c_X12_fails) rfl rfl rfl jd_X12_fails ⟨Nat.le_of_ble_eq_true rfl, Nat.le_of_ble_eq_true rfl⟩ rfl rfl (Nat.le_of_ble_eq_true rfl) (by decide) (okc_1 hy) rfl dX12_number_120 rfl ?_
  refine v_if_eq (pc := 123) (tgt := 130) K dX12_number_123 (by decide) hF (fun c29 hF => ?_) (fun c29 hF => ?_)
  · refine v_iconst (pc := 130) (v := 0) K dX12_number_130 rfl ?_
    have hz := (Option.some.inj hF).symm
    subst hz
    exact v_zret (pc := 131) K hQ rfl dX12_number_131
  · refine v_iconst (pc := 126) (v := 1) K dX12_number_126 rfl ?_
    refine v_goto (pc := 127) (tgt := 131) K dX12_number_127 (by decide) ?_
    have hz := (Option.some.inj hF).symm
    subst hz
    exact v_zret (pc := 131) K hQ rfl dX12_number_131
def fX12_number_b88 (M : QM) (x1 : Int32) (x2 : Int32) (x3 : Int32) (x4 : Int32) : Option (Int32 × QM) := (q_t (p_i M 1000 16 x4) fun M20 => if (4 : Int32) < ((q_i M20 1000 14) - x3) then (fX12_number_b117 M20 x3) else (q_b (fX12_in M20 (Int32.toInt64 x4) (Int32.toInt64 x1) (Int32.toInt64 x2)) fun r22 M23 => if r22 ≠ (0 : Int32) then some ((1 : Int32), M23) else (fX12_number_b117 M23 x3)))
set_option maxRecDepth 100000 in
set_option maxHeartbeats 4000000 in
theorem bX12_number_88 {x : Cx} {y : Ly} (l : Launch) (K : VK x l rmX12_number y 5 cX12_number RX12 wqX12_number) (hy : y.2.2.2.2 = 1) {z : Int32 × QM} (hQ : VQ x y (some (.int z.1)) z.2 (some .boolean)) {M : QM} {x1 : Int32} {x2 : Int32} {x3 : Int32} {x4 : Int32} (hF : fX12_number_b88 M x1 x2 x3 x4 = some z) : V x y 5 M 88 [(0, .ref (ly_o y 1000)), (1, .int x1), (2, .int x2), (3, .int x3), (4, .int x4)] [] := by
  unfold fX12_number_b88 at hF
  refine v_aload_n (pc := 88) K dX12_number_88 0 rfl ?_
  refine v_iload (pc := 89) K dX12_number_89 4 rfl ?_
  refine pX12_said (pc := 91) K hy (by decide) jn_X12 (List.mem_cons_of_mem _ jl_X12_144) dX12_number_91 ?_
  refine v_nmM hF (fun M20 hF => ?_)
  refine v_aload_n (pc := 94) K dX12_number_94 0 rfl ?_
  refine gX12_next (pc := 95) K hy (by decide) jn_X12 (List.mem_cons_of_mem _ jl_X12_121) dX12_number_95 ?_
  refine v_iload_n (pc := 98) K dX12_number_98 3 rfl ?_
  refine v_isub (pc := 99) K dX12_number_99 ?_
  refine v_iconst (pc := 100) (v := 4) K dX12_number_100 rfl ?_
  refine v_icmp_gt (pc := 101) (tgt := 117) K dX12_number_101 (by decide) hF (fun c25 hF => ?_) (fun c25 hF => ?_)
  · refine v_sub [0, 3] rfl ?_
    exact bX12_number_117 l K hy hQ hF
  · refine v_iload (pc := 104) K dX12_number_104 4 rfl ?_
    refine v_i2l (pc := 106) K dX12_number_106 ?_
    refine v_iload_n (pc := 107) K dX12_number_107 1 rfl ?_
    refine v_i2l (pc := 108) K dX12_number_108 ?_
    refine v_iload_n (pc := 109) K dX12_number_109 2 rfl ?_
    refine v_i2l (pc := 110) K dX12_number_110 ?_
    obtain ⟨r22, M23, hc21, hF⟩ := q_bE hF
    refine v_callS (pc := 111) (As := [.long (Int32.toInt64 x4), .long (Int32.toInt64 x1), .long (Int32.toInt64 x2)]) (rest := []) (st' := [.int r22]) (r := some (.int r22)) (M1 := M23) K (kX12_in l K.2.2.2.2.2.2.1 hy hc21) (jg_S jl_X12_97 jw_t_X12_in jw_n_X12 jw_c_X12_in) rfl rfl rfl jd_X12_in ⟨Nat.le_of_ble_eq_true rfl, Nat.le_of_ble_eq_true rfl⟩ rfl rfl (Nat.le_of_ble_eq_true rfl) dX12_number_111 rfl ?_
    refine v_if_ne (pc := 114) (tgt := 126) K dX12_number_114 (by decide) hF (fun c24 hF => ?_) (fun c24 hF => ?_)
    · refine v_iconst (pc := 126) (v := 1) K dX12_number_126 rfl ?_
      refine v_goto (pc := 127) (tgt := 131) K dX12_number_127 (by decide) ?_
      have hz := (Option.some.inj hF).symm
      subst hz
      exact v_zret (pc := 131) K hQ rfl dX12_number_131
    · refine v_sub [0, 3] rfl ?_
      exact bX12_number_117 l K hy hQ hF
def fX12_number_b34 : Nat → QM → Int32 → Int32 → Int32 → Int32 → Option (Int32 × QM)
  | 0, _, _, _, _, _ => none
  | q + 1, M, x1, x2, x3, x4 => (q_b (fX12_isDigit M (q_i M 1000 14)) fun r13 M14 => if r13 = (0 : Int32) then (fX12_number_b88 M14 x1 x2 x3 x4) else if (4 : Int32) ≤ ((q_i M14 1000 14) - x3) then (fX12_number_b75 (fun M x1 x2 x3 x4 => fX12_number_b34 q M x1 x2 x3 x4) M14 x1 x2 x3 x4) else (if q_in (q_i M14 1000 14) 400 then (q_t ((((10 : Int32) * x4) + (q_a M14 1000 3 (q_i M14 1000 14).toNatClampNeg)) - (48 : Int32)) fun v16 => (fX12_number_b75 (fun M x1 x2 x3 x4 => fX12_number_b34 q M x1 x2 x3 x4) M14 x1 x2 x3 v16)) else none))
set_option maxRecDepth 100000 in
set_option maxHeartbeats 4000000 in
theorem bX12_number_34 {x : Cx} {y : Ly} (l : Launch) (K : VK x l rmX12_number y 5 cX12_number RX12 wqX12_number) (hy : y.2.2.2.2 = 1) {z : Int32 × QM} (hQ : VQ x y (some (.int z.1)) z.2 (some .boolean)) : ∀ (q : Nat) {M : QM} {x1 : Int32} {x2 : Int32} {x3 : Int32} {x4 : Int32},  fX12_number_b34 q M x1 x2 x3 x4 = some z → V x y 5 M 34 [(0, .ref (ly_o y 1000)), (1, .int x1), (2, .int x2), (3, .int x3), (4, .int x4)] [] := by
  intro q
  induction q with
  | zero =>
    intro M x1 x2 x3 x4  hF
    rw [fX12_number_b34] at hF
    cases hF
  | succ q ih =>
    intro M x1 x2 x3 x4  hF
    rw [fX12_number_b34] at hF
    refine v_aload_n (pc := 34) K dX12_number_34 0 rfl ?_
    refine v_aload_n (pc := 35) K dX12_number_35 0 rfl ?_
    refine gX12_next (pc := 36) K hy (by decide) jn_X12 (List.mem_cons_of_mem _ jl_X12_121) dX12_number_36 ?_
    obtain ⟨r13, M14, hc12, hF⟩ := q_bE hF
    refine v_callV (pc := 39) (ci := 11) (As := [.int (q_i M 1000 14)]) (rest := []) (st' := [.int r13]) (r := some (.int r13)) (M1 := M14) K (kX12_isDigit l K.2.2.2.2.2.2.1 hy hc12) (jg_V jl_X12_138 jw_i_X12_isDigit jw_s_X12_isDigit jw_n_X12 jw_c_X12_isDigit) rfl rfl rfl jd_X12_isDigit ⟨Nat.le_of_ble_eq_true rfl, Nat.le_of_ble_eq_true rfl⟩ rfl rfl (Nat.le_of_ble_eq_true rfl) (by decide) (okc_1 hy) rfl dX12_number_39 rfl ?_
    refine v_if_eq (pc := 42) (tgt := 88) K dX12_number_42 (by decide) hF (fun c18 hF => ?_) (fun c18 hF => ?_)
    · exact bX12_number_88 l K hy hQ hF
    · refine v_aload_n (pc := 45) K dX12_number_45 0 rfl ?_
      refine gX12_next (pc := 46) K hy (by decide) jn_X12 (List.mem_cons_of_mem _ jl_X12_121) dX12_number_46 ?_
      refine v_iload_n (pc := 49) K dX12_number_49 3 rfl ?_
      refine v_isub (pc := 50) K dX12_number_50 ?_
      refine v_iconst (pc := 51) (v := 4) K dX12_number_51 rfl ?_
      refine v_icmp_ge (pc := 52) (tgt := 75) K dX12_number_52 (by decide) hF (fun c17 hF => ?_) (fun c17 hF => ?_)
      · exact bX12_number_75 l K hy hQ ih hF
      · refine v_bipush (pc := 55) (v := 10) K dX12_number_55 rfl ?_
        refine v_iload (pc := 57) K dX12_number_57 4 rfl ?_
        refine v_imul (pc := 59) K dX12_number_59 ?_
        refine v_aload_n (pc := 60) K dX12_number_60 0 rfl ?_
        refine gX12_tape (pc := 61) K hy (by decide) jn_X12 (List.mem_cons_of_mem _ jl_X12_16) dX12_number_61 ?_
        refine v_aload_n (pc := 64) K dX12_number_64 0 rfl ?_
        refine gX12_next (pc := 65) K hy (by decide) jn_X12 (List.mem_cons_of_mem _ jl_X12_121) dX12_number_65 ?_
        refine iX12_tape (pc := 68) K hy (by decide) hF dX12_number_68 (fun hi15 hF => ?_)
        refine v_iadd (pc := 69) K dX12_number_69 ?_
        refine v_bipush (pc := 70) (v := 48) K dX12_number_70 rfl ?_
        refine v_isub (pc := 72) K dX12_number_72 ?_
        refine v_nmI hF (fun v16 hF => ?_)
        refine v_istore (pc := 73) (lv' := [(4, .int v16), (0, .ref (ly_o y 1000)), (1, .int x1), (2, .int x2), (3, .int x3)]) K 4 dX12_number_73 (by decide) rfl ?_
        refine v_sub [1, 2, 3, 4, 0] rfl ?_
        exact bX12_number_75 l K hy hQ ih hF
def fX12_number (M : QM) (x1 : Int32) (x2 : Int32) : Option (Int32 × QM) := (q_b (fX12_see M) fun r2 M3 => (q_b (fX12_isDigit M3 (q_i M3 1000 14)) fun r5 M6 => if r5 ≠ (0 : Int32) then (fX12_number_b34 q_F M6 x1 x2 (q_i M6 1000 14) (0 : Int32)) else (q_b (fX12_fails M6 (0 : Int32) (q_i M6 1000 14)) fun r8 M9 => if q_z r8 then some (r8, M9) else none)))
set_option maxRecDepth 100000 in
set_option maxHeartbeats 4000000 in
theorem bX12_number_0 {x : Cx} {y : Ly} (l : Launch) (K : VK x l rmX12_number y 5 cX12_number RX12 wqX12_number) (hy : y.2.2.2.2 = 1) {z : Int32 × QM} (hQ : VQ x y (some (.int z.1)) z.2 (some .boolean)) {M : QM} {x1 : Int32} {x2 : Int32} (hF : fX12_number M x1 x2 = some z) : V x y 5 M 0 [(0, .ref (ly_o y 1000)), (1, .int x1), (2, .int x2)] [] := by
  unfold fX12_number at hF
  refine v_aload_n (pc := 0) K dX12_number_0 0 rfl ?_
  obtain ⟨r2, M3, hc1, hF⟩ := q_bE hF
  refine v_callV (pc := 1) (ci := 11) (As := []) (rest := []) (st' := [.int r2]) (r := some (.int r2)) (M1 := M3) K (kX12_see l K.2.2.2.2.2.2.1 hy hc1) (jg_V jl_X12_124 jw_i_X12_see jw_s_X12_see jw_n_X12 jw_c_X12_see) rfl rfl rfl jd_X12_see ⟨Nat.le_of_ble_eq_true rfl, Nat.le_of_ble_eq_true rfl⟩ rfl rfl (Nat.le_of_ble_eq_true rfl) (by decide) (okc_1 hy) rfl dX12_number_1 rfl ?_
  refine v_pop (pc := 4) K dX12_number_4 rfl ?_
  refine v_aload_n (pc := 5) K dX12_number_5 0 rfl ?_
  refine v_aload_n (pc := 6) K dX12_number_6 0 rfl ?_
  refine gX12_next (pc := 7) K hy (by decide) jn_X12 (List.mem_cons_of_mem _ jl_X12_121) dX12_number_7 ?_
  obtain ⟨r5, M6, hc4, hF⟩ := q_bE hF
  refine v_callV (pc := 10) (ci := 11) (As := [.int (q_i M3 1000 14)]) (rest := []) (st' := [.int r5]) (r := some (.int r5)) (M1 := M6) K (kX12_isDigit l K.2.2.2.2.2.2.1 hy hc4) (jg_V jl_X12_138 jw_i_X12_isDigit jw_s_X12_isDigit jw_n_X12 jw_c_X12_isDigit) rfl rfl rfl jd_X12_isDigit ⟨Nat.le_of_ble_eq_true rfl, Nat.le_of_ble_eq_true rfl⟩ rfl rfl (Nat.le_of_ble_eq_true rfl) (by decide) (okc_1 hy) rfl dX12_number_10 rfl ?_
  refine v_if_ne (pc := 13) (tgt := 26) K dX12_number_13 (by decide) hF (fun c11 hF => ?_) (fun c11 hF => ?_)
  · refine v_aload_n (pc := 26) K dX12_number_26 0 rfl ?_
    refine gX12_next (pc := 27) K hy (by decide) jn_X12 (List.mem_cons_of_mem _ jl_X12_121) dX12_number_27 ?_
    refine v_istore_n (pc := 30) (lv' := [(3, .int (q_i M6 1000 14)), (0, .ref (ly_o y 1000)), (1, .int x1), (2, .int x2)]) K dX12_number_30 3 rfl (by decide) rfl ?_
    refine v_iconst (pc := 31) (v := 0) K dX12_number_31 rfl ?_
    refine v_istore (pc := 32) (lv' := [(4, .int (0 : Int32)), (3, .int (q_i M6 1000 14)), (0, .ref (ly_o y 1000)), (1, .int x1), (2, .int x2)]) K 4 dX12_number_32 (by decide) rfl ?_
    refine v_sub [2, 3, 4, 1, 0] rfl ?_
    exact bX12_number_34 l K hy hQ q_F hF
  · refine v_aload_n (pc := 16) K dX12_number_16 0 rfl ?_
    refine v_iconst (pc := 17) (v := 0) K dX12_number_17 rfl ?_
    refine v_aload_n (pc := 18) K dX12_number_18 0 rfl ?_
    refine gX12_next (pc := 19) K hy (by decide) jn_X12 (List.mem_cons_of_mem _ jl_X12_121) dX12_number_19 ?_
    obtain ⟨r8, M9, hc7, hF⟩ := q_bE hF
    refine v_callV (pc := 22) (ci := 11) (As := [.int (0 : Int32), .int (q_i M6 1000 14)]) (rest := []) (st' := [.int r8]) (r := some (.int r8)) (M1 := M9) K (kX12_fails l K.2.2.2.2.2.2.1 hy hc7) (jg_V jl_X12_141 jw_i_X12_fails jw_s_X12_fails jw_n_X12 jw_c_X12_fails) rfl rfl rfl jd_X12_fails ⟨Nat.le_of_ble_eq_true rfl, Nat.le_of_ble_eq_true rfl⟩ rfl rfl (Nat.le_of_ble_eq_true rfl) (by decide) (okc_1 hy) rfl dX12_number_22 rfl ?_
    obtain ⟨hz10, hF⟩ := q_kE hF
    have hz := (Option.some.inj hF).symm
    subst hz
    exact v_zret (pc := 25) K hQ (q_zn hz10) dX12_number_25
set_option maxRecDepth 100000 in
set_option maxHeartbeats 4000000 in
theorem kX12_number (l : Launch) {y : Ly} (hJ : ly_J y) (hy : y.2.2.2.2 = 1) {M M1 : QM} {r : Int32} {x1 : Int32} {x2 : Int32} (hF : fX12_number M x1 x2 = some (r, M1)) : Met l yX12_number wqX12_number rmX12_number (q_P y [.ref (ly_o y 1000), .int x1, .int x2] M) (q_E y (some (.int r)) M1) 0 0 (ly_A y) :=
  q_met (by decide) rfl hJ rfl rfl rfl (fun x K hQ => bX12_number_0 l K hy (z := (r, M1)) hQ  hF)
-- ===== X12_wordHere ()I
theorem jd_X12_wordHere : yX12_wordHere.cls = RX12 ∧ yX12_wordHere.cls ≠ "java/lang/invoke/MethodHandle" ∧ yX12_wordHere.cls ≠ "java/lang/invoke/VarHandle" ∧ (parseMethodDescriptor yX12_wordHere.desc).map (fun d => d.parameters.length) = some 0 := by decide +kernel
abbrev wqX12_wordHere : List Cond := .code yX12_wordHere cX12_wordHere 1 (some .int) :: wsL_law
abbrev rmX12_wordHere : Room := { frames := 2, cells := 0, slots := 0, locals := 46 }
def fX12_wordHere (M : QM) : Option (Int32 × QM) := (q_b (fX12_isWord M (6383461 : Int64)) fun r2 M3 => if r2 = (0 : Int32) then (q_b (fX12_isWord M3 (1918987883 : Int64)) fun r5 M6 => if r5 = (0 : Int32) then (q_b (fX12_isWord M6 (114802116618085 : Int64)) fun r8 M9 => if r8 = (0 : Int32) then (q_b (fX12_isWord M9 (29389342139051627 : Int64)) fun r11 M12 => if r11 = (0 : Int32) then (q_b (fX12_isWord M12 (7039342 : Int64)) fun r14 M15 => if r14 = (0 : Int32) then (q_b (fX12_isWord M15 (1870095731 : Int64)) fun r17 M18 => if r17 = (0 : Int32) then (q_b (fX12_isWord M18 (119165552256371 : Int64)) fun r20 M21 => if r20 = (0 : Int32) then (q_b (fX12_isWord M21 (1870095716 : Int64)) fun r23 M24 => if r23 = (0 : Int32) then (q_b (fX12_isWord M24 (1835626085 : Int64)) fun r26 M27 => if r26 = (0 : Int32) then (q_b (fX12_isWord M27 (1735356005 : Int64)) fun r29 M30 => if r29 = (0 : Int32) then some ((-1 : Int32), M30) else some ((9 : Int32), M30)) else some ((8 : Int32), M27)) else some ((7 : Int32), M24)) else some ((6 : Int32), M21)) else some ((5 : Int32), M18)) else some ((4 : Int32), M15)) else some ((3 : Int32), M12)) else some ((2 : Int32), M9)) else some ((1 : Int32), M6)) else some ((0 : Int32), M3))
set_option maxRecDepth 100000 in
set_option maxHeartbeats 4000000 in
theorem bX12_wordHere_0 {x : Cx} {y : Ly} (l : Launch) (K : VK x l rmX12_wordHere y 1 cX12_wordHere RX12 wqX12_wordHere) (hy : y.2.2.2.2 = 1) {z : Int32 × QM} (hQ : VQ x y (some (.int z.1)) z.2 (some .int)) {M : QM} (hF : fX12_wordHere M  = some z) : V x y 1 M 0 [(0, .ref (ly_o y 1000))] [] := by
  unfold fX12_wordHere at hF
  refine v_aload_n (pc := 0) K dX12_wordHere_0 0 rfl ?_
  refine v_ldc2 (pc := 1) (v := 6383461) K dX12_wordHere_1 (List.mem_cons_of_mem _ jl_X12_147) ?_
  obtain ⟨r2, M3, hc1, hF⟩ := q_bE hF
  refine v_callV (pc := 4) (ci := 11) (As := [.long (6383461 : Int64)]) (rest := []) (st' := [.int r2]) (r := some (.int r2)) (M1 := M3) K (kX12_isWord l K.2.2.2.2.2.2.1 hy hc1) (jg_V jl_X12_131 jw_i_X12_isWord jw_s_X12_isWord jw_n_X12 jw_c_X12_isWord) rfl rfl rfl jd_X12_isWord ⟨Nat.le_of_ble_eq_true rfl, Nat.le_of_ble_eq_true rfl⟩ rfl rfl (Nat.le_of_ble_eq_true rfl) (by decide) (okc_1 hy) rfl dX12_wordHere_4 rfl ?_
  refine v_if_eq (pc := 7) (tgt := 12) K dX12_wordHere_7 (by decide) hF (fun c40 hF => ?_) (fun c40 hF => ?_)
  · refine v_aload_n (pc := 12) K dX12_wordHere_12 0 rfl ?_
    refine v_ldc2 (pc := 13) (v := 1918987883) K dX12_wordHere_13 (List.mem_cons_of_mem _ jl_X12_149) ?_
    obtain ⟨r5, M6, hc4, hF⟩ := q_bE hF
    refine v_callV (pc := 16) (ci := 11) (As := [.long (1918987883 : Int64)]) (rest := []) (st' := [.int r5]) (r := some (.int r5)) (M1 := M6) K (kX12_isWord l K.2.2.2.2.2.2.1 hy hc4) (jg_V jl_X12_131 jw_i_X12_isWord jw_s_X12_isWord jw_n_X12 jw_c_X12_isWord) rfl rfl rfl jd_X12_isWord ⟨Nat.le_of_ble_eq_true rfl, Nat.le_of_ble_eq_true rfl⟩ rfl rfl (Nat.le_of_ble_eq_true rfl) (by decide) (okc_1 hy) rfl dX12_wordHere_16 rfl ?_
    refine v_if_eq (pc := 19) (tgt := 24) K dX12_wordHere_19 (by decide) hF (fun c39 hF => ?_) (fun c39 hF => ?_)
    · refine v_aload_n (pc := 24) K dX12_wordHere_24 0 rfl ?_
      refine v_ldc2 (pc := 25) (v := 114802116618085) K dX12_wordHere_25 (List.mem_cons_of_mem _ jl_X12_151) ?_
      obtain ⟨r8, M9, hc7, hF⟩ := q_bE hF
      refine v_callV (pc := 28) (ci := 11) (As := [.long (114802116618085 : Int64)]) (rest := []) (st' := [.int r8]) (r := some (.int r8)) (M1 := M9) K (kX12_isWord l K.2.2.2.2.2.2.1 hy hc7) (jg_V jl_X12_131 jw_i_X12_isWord jw_s_X12_isWord jw_n_X12 jw_c_X12_isWord) rfl rfl rfl jd_X12_isWord ⟨Nat.le_of_ble_eq_true rfl, Nat.le_of_ble_eq_true rfl⟩ rfl rfl (Nat.le_of_ble_eq_true rfl) (by decide) (okc_1 hy) rfl dX12_wordHere_28 rfl ?_
      refine v_if_eq (pc := 31) (tgt := 36) K dX12_wordHere_31 (by decide) hF (fun c38 hF => ?_) (fun c38 hF => ?_)
      · refine v_aload_n (pc := 36) K dX12_wordHere_36 0 rfl ?_
        refine v_ldc2 (pc := 37) (v := 29389342139051627) K dX12_wordHere_37 (List.mem_cons_of_mem _ jl_X12_153) ?_
        obtain ⟨r11, M12, hc10, hF⟩ := q_bE hF
        refine v_callV (pc := 40) (ci := 11) (As := [.long (29389342139051627 : Int64)]) (rest := []) (st' := [.int r11]) (r := some (.int r11)) (M1 := M12) K (kX12_isWord l K.2.2.2.2.2.2.1 hy hc10) (jg_V jl_X12_131 jw_i_X12_isWord jw_s_X12_isWord jw_n_X12 jw_c_X12_isWord) rfl rfl rfl jd_X12_isWord ⟨Nat.le_of_ble_eq_true rfl, Nat.le_of_ble_eq_true rfl⟩ rfl rfl (Nat.le_of_ble_eq_true rfl) (by decide) (okc_1 hy) rfl dX12_wordHere_40 rfl ?_
        refine v_if_eq (pc := 43) (tgt := 48) K dX12_wordHere_43 (by decide) hF (fun c37 hF => ?_) (fun c37 hF => ?_)
        · refine v_aload_n (pc := 48) K dX12_wordHere_48 0 rfl ?_
          refine v_ldc2 (pc := 49) (v := 7039342) K dX12_wordHere_49 (List.mem_cons_of_mem _ jl_X12_155) ?_
          obtain ⟨r14, M15, hc13, hF⟩ := q_bE hF
          refine v_callV (pc := 52) (ci := 11) (As := [.long (7039342 : Int64)]) (rest := []) (st' := [.int r14]) (r := some (.int r14)) (M1 := M15) K (kX12_isWord l K.2.2.2.2.2.2.1 hy hc13) (jg_V jl_X12_131 jw_i_X12_isWord jw_s_X12_isWord jw_n_X12 jw_c_X12_isWord) rfl rfl rfl jd_X12_isWord ⟨Nat.le_of_ble_eq_true rfl, Nat.le_of_ble_eq_true rfl⟩ rfl rfl (Nat.le_of_ble_eq_true rfl) (by decide) (okc_1 hy) rfl dX12_wordHere_52 rfl ?_
          refine v_if_eq (pc := 55) (tgt := 60) K dX12_wordHere_55 (by decide) hF (fun c36 hF => ?_) (fun c36 hF => ?_)
          · refine v_aload_n (pc := 60) K dX12_wordHere_60 0 rfl ?_
            refine v_ldc2 (pc := 61) (v := 1870095731) K dX12_wordHere_61 (List.mem_cons_of_mem _ jl_X12_157) ?_
            obtain ⟨r17, M18, hc16, hF⟩ := q_bE hF
            refine v_callV (pc := 64) (ci := 11) (As := [.long (1870095731 : Int64)]) (rest := []) (st' := [.int r17]) (r := some (.int r17)) (M1 := M18) K (kX12_isWord l K.2.2.2.2.2.2.1 hy hc16) (jg_V jl_X12_131 jw_i_X12_isWord jw_s_X12_isWord jw_n_X12 jw_c_X12_isWord) rfl rfl rfl jd_X12_isWord ⟨Nat.le_of_ble_eq_true rfl, Nat.le_of_ble_eq_true rfl⟩ rfl rfl (Nat.le_of_ble_eq_true rfl) (by decide) (okc_1 hy) rfl dX12_wordHere_64 rfl ?_
            refine v_if_eq (pc := 67) (tgt := 72) K dX12_wordHere_67 (by decide) hF (fun c35 hF => ?_) (fun c35 hF => ?_)
            · refine v_aload_n (pc := 72) K dX12_wordHere_72 0 rfl ?_
              refine v_ldc2 (pc := 73) (v := 119165552256371) K dX12_wordHere_73 (List.mem_cons_of_mem _ jl_X12_159) ?_
              obtain ⟨r20, M21, hc19, hF⟩ := q_bE hF
              refine v_callV (pc := 76) (ci := 11) (As := [.long (119165552256371 : Int64)]) (rest := []) (st' := [.int r20]) (r := some (.int r20)) (M1 := M21) K (kX12_isWord l K.2.2.2.2.2.2.1 hy hc19) (jg_V jl_X12_131 jw_i_X12_isWord jw_s_X12_isWord jw_n_X12 jw_c_X12_isWord) rfl rfl rfl jd_X12_isWord ⟨Nat.le_of_ble_eq_true rfl, Nat.le_of_ble_eq_true rfl⟩ rfl rfl (Nat.le_of_ble_eq_true rfl) (by decide) (okc_1 hy) rfl dX12_wordHere_76 rfl ?_
              refine v_if_eq (pc := 79) (tgt := 85) K dX12_wordHere_79 (by decide) hF (fun c34 hF => ?_) (fun c34 hF => ?_)
              · refine v_aload_n (pc := 85) K dX12_wordHere_85 0 rfl ?_
                refine v_ldc2 (pc := 86) (v := 1870095716) K dX12_wordHere_86 (List.mem_cons_of_mem _ jl_X12_161) ?_
                obtain ⟨r23, M24, hc22, hF⟩ := q_bE hF
                refine v_callV (pc := 89) (ci := 11) (As := [.long (1870095716 : Int64)]) (rest := []) (st' := [.int r23]) (r := some (.int r23)) (M1 := M24) K (kX12_isWord l K.2.2.2.2.2.2.1 hy hc22) (jg_V jl_X12_131 jw_i_X12_isWord jw_s_X12_isWord jw_n_X12 jw_c_X12_isWord) rfl rfl rfl jd_X12_isWord ⟨Nat.le_of_ble_eq_true rfl, Nat.le_of_ble_eq_true rfl⟩ rfl rfl (Nat.le_of_ble_eq_true rfl) (by decide) (okc_1 hy) rfl dX12_wordHere_89 rfl ?_
                refine v_if_eq (pc := 92) (tgt := 98) K dX12_wordHere_92 (by decide) hF (fun c33 hF => ?_) (fun c33 hF => ?_)
                · refine v_aload_n (pc := 98) K dX12_wordHere_98 0 rfl ?_
                  refine v_ldc2 (pc := 99) (v := 1835626085) K dX12_wordHere_99 (List.mem_cons_of_mem _ jl_X12_163) ?_
                  obtain ⟨r26, M27, hc25, hF⟩ := q_bE hF
                  refine v_callV (pc := 102) (ci := 11) (As := [.long (1835626085 : Int64)]) (rest := []) (st' := [.int r26]) (r := some (.int r26)) (M1 := M27) K (kX12_isWord l K.2.2.2.2.2.2.1 hy hc25) (jg_V jl_X12_131 jw_i_X12_isWord jw_s_X12_isWord jw_n_X12 jw_c_X12_isWord) rfl rfl rfl jd_X12_isWord ⟨Nat.le_of_ble_eq_true rfl, Nat.le_of_ble_eq_true rfl⟩ rfl rfl (Nat.le_of_ble_eq_true rfl) (by decide) (okc_1 hy) rfl dX12_wordHere_102 rfl ?_
                  refine v_if_eq (pc := 105) (tgt := 111) K dX12_wordHere_105 (by decide) hF (fun c32 hF => ?_) (fun c32 hF => ?_)
                  · refine v_aload_n (pc := 111) K dX12_wordHere_111 0 rfl ?_
                    refine v_ldc2 (pc := 112) (v := 1735356005) K dX12_wordHere_112 (List.mem_cons_of_mem _ jl_X12_165) ?_
                    obtain ⟨r29, M30, hc28, hF⟩ := q_bE hF
                    refine v_callV (pc := 115) (ci := 11) (As := [.long (1735356005 : Int64)]) (rest := []) (st' := [.int r29]) (r := some (.int r29)) (M1 := M30) K (kX12_isWord l K.2.2.2.2.2.2.1 hy hc28) (jg_V jl_X12_131 jw_i_X12_isWord jw_s_X12_isWord jw_n_X12 jw_c_X12_isWord) rfl rfl rfl jd_X12_isWord ⟨Nat.le_of_ble_eq_true rfl, Nat.le_of_ble_eq_true rfl⟩ rfl rfl (Nat.le_of_ble_eq_true rfl) (by decide) (okc_1 hy) rfl dX12_wordHere_115 rfl ?_
                    refine v_if_eq (pc := 118) (tgt := 126) K dX12_wordHere_118 (by decide) hF (fun c31 hF => ?_) (fun c31 hF => ?_)
                    · refine v_iconst (pc := 126) (v := -1) K dX12_wordHere_126 rfl ?_
                      have hz := (Option.some.inj hF).symm
                      subst hz
                      exact v_iret (pc := 127) K hQ dX12_wordHere_127
                    · refine v_bipush (pc := 121) (v := 9) K dX12_wordHere_121 rfl ?_
                      refine v_goto (pc := 123) (tgt := 127) K dX12_wordHere_123 (by decide) ?_
                      have hz := (Option.some.inj hF).symm
                      subst hz
                      exact v_iret (pc := 127) K hQ dX12_wordHere_127
                  · refine v_bipush (pc := 108) (v := 8) K dX12_wordHere_108 rfl ?_
                    have hz := (Option.some.inj hF).symm
                    subst hz
                    exact v_iret (pc := 110) K hQ dX12_wordHere_110
                · refine v_bipush (pc := 95) (v := 7) K dX12_wordHere_95 rfl ?_
                  have hz := (Option.some.inj hF).symm
                  subst hz
                  exact v_iret (pc := 97) K hQ dX12_wordHere_97
              · refine v_bipush (pc := 82) (v := 6) K dX12_wordHere_82 rfl ?_
                have hz := (Option.some.inj hF).symm
                subst hz
                exact v_iret (pc := 84) K hQ dX12_wordHere_84
            · refine v_iconst (pc := 70) (v := 5) K dX12_wordHere_70 rfl ?_
              have hz := (Option.some.inj hF).symm
              subst hz
              exact v_iret (pc := 71) K hQ dX12_wordHere_71
          · refine v_iconst (pc := 58) (v := 4) K dX12_wordHere_58 rfl ?_
            have hz := (Option.some.inj hF).symm
            subst hz
            exact v_iret (pc := 59) K hQ dX12_wordHere_59
        · refine v_iconst (pc := 46) (v := 3) K dX12_wordHere_46 rfl ?_
          have hz := (Option.some.inj hF).symm
          subst hz
          exact v_iret (pc := 47) K hQ dX12_wordHere_47
      · refine v_iconst (pc := 34) (v := 2) K dX12_wordHere_34 rfl ?_
        have hz := (Option.some.inj hF).symm
        subst hz
        exact v_iret (pc := 35) K hQ dX12_wordHere_35
    · refine v_iconst (pc := 22) (v := 1) K dX12_wordHere_22 rfl ?_
      have hz := (Option.some.inj hF).symm
      subst hz
      exact v_iret (pc := 23) K hQ dX12_wordHere_23
  · refine v_iconst (pc := 10) (v := 0) K dX12_wordHere_10 rfl ?_
    have hz := (Option.some.inj hF).symm
    subst hz
    exact v_iret (pc := 11) K hQ dX12_wordHere_11
set_option maxRecDepth 100000 in
set_option maxHeartbeats 4000000 in
theorem kX12_wordHere (l : Launch) {y : Ly} (hJ : ly_J y) (hy : y.2.2.2.2 = 1) {M M1 : QM} {r : Int32} (hF : fX12_wordHere M  = some (r, M1)) : Met l yX12_wordHere wqX12_wordHere rmX12_wordHere (q_P y [.ref (ly_o y 1000)] M) (q_E y (some (.int r)) M1) 0 0 (ly_A y) :=
  q_met (by decide) rfl hJ rfl rfl rfl (fun x K hQ => bX12_wordHere_0 l K hy (z := (r, M1)) hQ  hF)
-- ===== X12_kindHere ()I
theorem jd_X12_kindHere : yX12_kindHere.cls = RX12 ∧ yX12_kindHere.cls ≠ "java/lang/invoke/MethodHandle" ∧ yX12_kindHere.cls ≠ "java/lang/invoke/VarHandle" ∧ (parseMethodDescriptor yX12_kindHere.desc).map (fun d => d.parameters.length) = some 0 := by decide +kernel
abbrev wqX12_kindHere : List Cond := .code yX12_kindHere cX12_kindHere 1 (some .int) :: wsL_law
abbrev rmX12_kindHere : Room := { frames := 2, cells := 0, slots := 0, locals := 46 }
def fX12_kindHere (M : QM) : Option (Int32 × QM) := (q_b (fX12_isWord M (1819242347 : Int64)) fun r2 M3 => if r2 = (0 : Int32) then (q_b (fX12_isWord M3 (2003792484 : Int64)) fun r5 M6 => if r5 = (0 : Int32) then (q_b (fX12_isWord M6 (7104869 : Int64)) fun r8 M9 => if r8 = (0 : Int32) then (q_b (fX12_isWord M9 (1651273591 : Int64)) fun r11 M12 => if r11 = (0 : Int32) then some ((-1 : Int32), M12) else some ((3 : Int32), M12)) else some ((2 : Int32), M9)) else some ((1 : Int32), M6)) else some ((0 : Int32), M3))
set_option maxRecDepth 100000 in
set_option maxHeartbeats 4000000 in
theorem bX12_kindHere_0 {x : Cx} {y : Ly} (l : Launch) (K : VK x l rmX12_kindHere y 1 cX12_kindHere RX12 wqX12_kindHere) (hy : y.2.2.2.2 = 1) {z : Int32 × QM} (hQ : VQ x y (some (.int z.1)) z.2 (some .int)) {M : QM} (hF : fX12_kindHere M  = some z) : V x y 1 M 0 [(0, .ref (ly_o y 1000))] [] := by
  unfold fX12_kindHere at hF
  refine v_aload_n (pc := 0) K dX12_kindHere_0 0 rfl ?_
  refine v_ldc2 (pc := 1) (v := 1819242347) K dX12_kindHere_1 (List.mem_cons_of_mem _ jl_X12_167) ?_
  obtain ⟨r2, M3, hc1, hF⟩ := q_bE hF
  refine v_callV (pc := 4) (ci := 11) (As := [.long (1819242347 : Int64)]) (rest := []) (st' := [.int r2]) (r := some (.int r2)) (M1 := M3) K (kX12_isWord l K.2.2.2.2.2.2.1 hy hc1) (jg_V jl_X12_131 jw_i_X12_isWord jw_s_X12_isWord jw_n_X12 jw_c_X12_isWord) rfl rfl rfl jd_X12_isWord ⟨Nat.le_of_ble_eq_true rfl, Nat.le_of_ble_eq_true rfl⟩ rfl rfl (Nat.le_of_ble_eq_true rfl) (by decide) (okc_1 hy) rfl dX12_kindHere_4 rfl ?_
  refine v_if_eq (pc := 7) (tgt := 14) K dX12_kindHere_7 (by decide) hF (fun c16 hF => ?_) (fun c16 hF => ?_)
  · refine v_aload_n (pc := 14) K dX12_kindHere_14 0 rfl ?_
    refine v_ldc2 (pc := 15) (v := 2003792484) K dX12_kindHere_15 (List.mem_cons_of_mem _ jl_X12_169) ?_
    obtain ⟨r5, M6, hc4, hF⟩ := q_bE hF
    refine v_callV (pc := 18) (ci := 11) (As := [.long (2003792484 : Int64)]) (rest := []) (st' := [.int r5]) (r := some (.int r5)) (M1 := M6) K (kX12_isWord l K.2.2.2.2.2.2.1 hy hc4) (jg_V jl_X12_131 jw_i_X12_isWord jw_s_X12_isWord jw_n_X12 jw_c_X12_isWord) rfl rfl rfl jd_X12_isWord ⟨Nat.le_of_ble_eq_true rfl, Nat.le_of_ble_eq_true rfl⟩ rfl rfl (Nat.le_of_ble_eq_true rfl) (by decide) (okc_1 hy) rfl dX12_kindHere_18 rfl ?_
    refine v_if_eq (pc := 21) (tgt := 28) K dX12_kindHere_21 (by decide) hF (fun c15 hF => ?_) (fun c15 hF => ?_)
    · refine v_aload_n (pc := 28) K dX12_kindHere_28 0 rfl ?_
      refine v_ldc2 (pc := 29) (v := 7104869) K dX12_kindHere_29 (List.mem_cons_of_mem _ jl_X12_171) ?_
      obtain ⟨r8, M9, hc7, hF⟩ := q_bE hF
      refine v_callV (pc := 32) (ci := 11) (As := [.long (7104869 : Int64)]) (rest := []) (st' := [.int r8]) (r := some (.int r8)) (M1 := M9) K (kX12_isWord l K.2.2.2.2.2.2.1 hy hc7) (jg_V jl_X12_131 jw_i_X12_isWord jw_s_X12_isWord jw_n_X12 jw_c_X12_isWord) rfl rfl rfl jd_X12_isWord ⟨Nat.le_of_ble_eq_true rfl, Nat.le_of_ble_eq_true rfl⟩ rfl rfl (Nat.le_of_ble_eq_true rfl) (by decide) (okc_1 hy) rfl dX12_kindHere_32 rfl ?_
      refine v_if_eq (pc := 35) (tgt := 42) K dX12_kindHere_35 (by decide) hF (fun c14 hF => ?_) (fun c14 hF => ?_)
      · refine v_aload_n (pc := 42) K dX12_kindHere_42 0 rfl ?_
        refine v_ldc2 (pc := 43) (v := 1651273591) K dX12_kindHere_43 (List.mem_cons_of_mem _ jl_X12_173) ?_
        obtain ⟨r11, M12, hc10, hF⟩ := q_bE hF
        refine v_callV (pc := 46) (ci := 11) (As := [.long (1651273591 : Int64)]) (rest := []) (st' := [.int r11]) (r := some (.int r11)) (M1 := M12) K (kX12_isWord l K.2.2.2.2.2.2.1 hy hc10) (jg_V jl_X12_131 jw_i_X12_isWord jw_s_X12_isWord jw_n_X12 jw_c_X12_isWord) rfl rfl rfl jd_X12_isWord ⟨Nat.le_of_ble_eq_true rfl, Nat.le_of_ble_eq_true rfl⟩ rfl rfl (Nat.le_of_ble_eq_true rfl) (by decide) (okc_1 hy) rfl dX12_kindHere_46 rfl ?_
        refine v_if_eq (pc := 49) (tgt := 56) K dX12_kindHere_49 (by decide) hF (fun c13 hF => ?_) (fun c13 hF => ?_)
        · refine v_iconst (pc := 56) (v := -1) K dX12_kindHere_56 rfl ?_
          have hz := (Option.some.inj hF).symm
          subst hz
          exact v_iret (pc := 57) K hQ dX12_kindHere_57
        · refine v_iconst (pc := 52) (v := 3) K dX12_kindHere_52 rfl ?_
          refine v_goto (pc := 53) (tgt := 57) K dX12_kindHere_53 (by decide) ?_
          have hz := (Option.some.inj hF).symm
          subst hz
          exact v_iret (pc := 57) K hQ dX12_kindHere_57
      · refine v_iconst (pc := 38) (v := 2) K dX12_kindHere_38 rfl ?_
        refine v_goto (pc := 39) (tgt := 57) K dX12_kindHere_39 (by decide) ?_
        have hz := (Option.some.inj hF).symm
        subst hz
        exact v_iret (pc := 57) K hQ dX12_kindHere_57
    · refine v_iconst (pc := 24) (v := 1) K dX12_kindHere_24 rfl ?_
      refine v_goto (pc := 25) (tgt := 57) K dX12_kindHere_25 (by decide) ?_
      have hz := (Option.some.inj hF).symm
      subst hz
      exact v_iret (pc := 57) K hQ dX12_kindHere_57
  · refine v_iconst (pc := 10) (v := 0) K dX12_kindHere_10 rfl ?_
    refine v_goto (pc := 11) (tgt := 57) K dX12_kindHere_11 (by decide) ?_
    have hz := (Option.some.inj hF).symm
    subst hz
    exact v_iret (pc := 57) K hQ dX12_kindHere_57
set_option maxRecDepth 100000 in
set_option maxHeartbeats 4000000 in
theorem kX12_kindHere (l : Launch) {y : Ly} (hJ : ly_J y) (hy : y.2.2.2.2 = 1) {M M1 : QM} {r : Int32} (hF : fX12_kindHere M  = some (r, M1)) : Met l yX12_kindHere wqX12_kindHere rmX12_kindHere (q_P y [.ref (ly_o y 1000)] M) (q_E y (some (.int r)) M1) 0 0 (ly_A y) :=
  q_met (by decide) rfl hJ rfl rfl rfl (fun x K hQ => bX12_kindHere_0 l K hy (z := (r, M1)) hQ  hF)
-- ===== X12_meansHere ()I
theorem jd_X12_meansHere : yX12_meansHere.cls = RX12 ∧ yX12_meansHere.cls ≠ "java/lang/invoke/MethodHandle" ∧ yX12_meansHere.cls ≠ "java/lang/invoke/VarHandle" ∧ (parseMethodDescriptor yX12_meansHere.desc).map (fun d => d.parameters.length) = some 0 := by decide +kernel
abbrev wqX12_meansHere : List Cond := .code yX12_meansHere cX12_meansHere 1 (some .int) :: wsL_law
abbrev rmX12_meansHere : Room := { frames := 2, cells := 0, slots := 0, locals := 46 }
def fX12_meansHere (M : QM) : Option (Int32 × QM) := (q_b (fX12_isWord M (6451063 : Int64)) fun r2 M3 => if r2 = (0 : Int32) then (q_b (fX12_isWord M3 (495791010425 : Int64)) fun r5 M6 => if r5 = (0 : Int32) then (q_b (fX12_isWord M6 (119183001281906 : Int64)) fun r8 M9 => if r8 = (0 : Int32) then (q_b (fX12_isWord M9 (123649464756579 : Int64)) fun r11 M12 => if r11 = (0 : Int32) then some ((-1 : Int32), M12) else some ((3 : Int32), M12)) else some ((2 : Int32), M9)) else some ((1 : Int32), M6)) else some ((0 : Int32), M3))
set_option maxRecDepth 100000 in
set_option maxHeartbeats 4000000 in
theorem bX12_meansHere_0 {x : Cx} {y : Ly} (l : Launch) (K : VK x l rmX12_meansHere y 1 cX12_meansHere RX12 wqX12_meansHere) (hy : y.2.2.2.2 = 1) {z : Int32 × QM} (hQ : VQ x y (some (.int z.1)) z.2 (some .int)) {M : QM} (hF : fX12_meansHere M  = some z) : V x y 1 M 0 [(0, .ref (ly_o y 1000))] [] := by
  unfold fX12_meansHere at hF
  refine v_aload_n (pc := 0) K dX12_meansHere_0 0 rfl ?_
  refine v_ldc2 (pc := 1) (v := 6451063) K dX12_meansHere_1 (List.mem_cons_of_mem _ jl_X12_175) ?_
  obtain ⟨r2, M3, hc1, hF⟩ := q_bE hF
  refine v_callV (pc := 4) (ci := 11) (As := [.long (6451063 : Int64)]) (rest := []) (st' := [.int r2]) (r := some (.int r2)) (M1 := M3) K (kX12_isWord l K.2.2.2.2.2.2.1 hy hc1) (jg_V jl_X12_131 jw_i_X12_isWord jw_s_X12_isWord jw_n_X12 jw_c_X12_isWord) rfl rfl rfl jd_X12_isWord ⟨Nat.le_of_ble_eq_true rfl, Nat.le_of_ble_eq_true rfl⟩ rfl rfl (Nat.le_of_ble_eq_true rfl) (by decide) (okc_1 hy) rfl dX12_meansHere_4 rfl ?_
  refine v_if_eq (pc := 7) (tgt := 14) K dX12_meansHere_7 (by decide) hF (fun c16 hF => ?_) (fun c16 hF => ?_)
  · refine v_aload_n (pc := 14) K dX12_meansHere_14 0 rfl ?_
    refine v_ldc2 (pc := 15) (v := 495791010425) K dX12_meansHere_15 (List.mem_cons_of_mem _ jl_X12_177) ?_
    obtain ⟨r5, M6, hc4, hF⟩ := q_bE hF
    refine v_callV (pc := 18) (ci := 11) (As := [.long (495791010425 : Int64)]) (rest := []) (st' := [.int r5]) (r := some (.int r5)) (M1 := M6) K (kX12_isWord l K.2.2.2.2.2.2.1 hy hc4) (jg_V jl_X12_131 jw_i_X12_isWord jw_s_X12_isWord jw_n_X12 jw_c_X12_isWord) rfl rfl rfl jd_X12_isWord ⟨Nat.le_of_ble_eq_true rfl, Nat.le_of_ble_eq_true rfl⟩ rfl rfl (Nat.le_of_ble_eq_true rfl) (by decide) (okc_1 hy) rfl dX12_meansHere_18 rfl ?_
    refine v_if_eq (pc := 21) (tgt := 28) K dX12_meansHere_21 (by decide) hF (fun c15 hF => ?_) (fun c15 hF => ?_)
    · refine v_aload_n (pc := 28) K dX12_meansHere_28 0 rfl ?_
      refine v_ldc2 (pc := 29) (v := 119183001281906) K dX12_meansHere_29 (List.mem_cons_of_mem _ jl_X12_179) ?_
      obtain ⟨r8, M9, hc7, hF⟩ := q_bE hF
      refine v_callV (pc := 32) (ci := 11) (As := [.long (119183001281906 : Int64)]) (rest := []) (st' := [.int r8]) (r := some (.int r8)) (M1 := M9) K (kX12_isWord l K.2.2.2.2.2.2.1 hy hc7) (jg_V jl_X12_131 jw_i_X12_isWord jw_s_X12_isWord jw_n_X12 jw_c_X12_isWord) rfl rfl rfl jd_X12_isWord ⟨Nat.le_of_ble_eq_true rfl, Nat.le_of_ble_eq_true rfl⟩ rfl rfl (Nat.le_of_ble_eq_true rfl) (by decide) (okc_1 hy) rfl dX12_meansHere_32 rfl ?_
      refine v_if_eq (pc := 35) (tgt := 42) K dX12_meansHere_35 (by decide) hF (fun c14 hF => ?_) (fun c14 hF => ?_)
      · refine v_aload_n (pc := 42) K dX12_meansHere_42 0 rfl ?_
        refine v_ldc2 (pc := 43) (v := 123649464756579) K dX12_meansHere_43 (List.mem_cons_of_mem _ jl_X12_181) ?_
        obtain ⟨r11, M12, hc10, hF⟩ := q_bE hF
        refine v_callV (pc := 46) (ci := 11) (As := [.long (123649464756579 : Int64)]) (rest := []) (st' := [.int r11]) (r := some (.int r11)) (M1 := M12) K (kX12_isWord l K.2.2.2.2.2.2.1 hy hc10) (jg_V jl_X12_131 jw_i_X12_isWord jw_s_X12_isWord jw_n_X12 jw_c_X12_isWord) rfl rfl rfl jd_X12_isWord ⟨Nat.le_of_ble_eq_true rfl, Nat.le_of_ble_eq_true rfl⟩ rfl rfl (Nat.le_of_ble_eq_true rfl) (by decide) (okc_1 hy) rfl dX12_meansHere_46 rfl ?_
        refine v_if_eq (pc := 49) (tgt := 56) K dX12_meansHere_49 (by decide) hF (fun c13 hF => ?_) (fun c13 hF => ?_)
        · refine v_iconst (pc := 56) (v := -1) K dX12_meansHere_56 rfl ?_
          have hz := (Option.some.inj hF).symm
          subst hz
          exact v_iret (pc := 57) K hQ dX12_meansHere_57
        · refine v_iconst (pc := 52) (v := 3) K dX12_meansHere_52 rfl ?_
          refine v_goto (pc := 53) (tgt := 57) K dX12_meansHere_53 (by decide) ?_
          have hz := (Option.some.inj hF).symm
          subst hz
          exact v_iret (pc := 57) K hQ dX12_meansHere_57
      · refine v_iconst (pc := 38) (v := 2) K dX12_meansHere_38 rfl ?_
        refine v_goto (pc := 39) (tgt := 57) K dX12_meansHere_39 (by decide) ?_
        have hz := (Option.some.inj hF).symm
        subst hz
        exact v_iret (pc := 57) K hQ dX12_meansHere_57
    · refine v_iconst (pc := 24) (v := 1) K dX12_meansHere_24 rfl ?_
      refine v_goto (pc := 25) (tgt := 57) K dX12_meansHere_25 (by decide) ?_
      have hz := (Option.some.inj hF).symm
      subst hz
      exact v_iret (pc := 57) K hQ dX12_meansHere_57
  · refine v_iconst (pc := 10) (v := 0) K dX12_meansHere_10 rfl ?_
    refine v_goto (pc := 11) (tgt := 57) K dX12_meansHere_11 (by decide) ?_
    have hz := (Option.some.inj hF).symm
    subst hz
    exact v_iret (pc := 57) K hQ dX12_meansHere_57
set_option maxRecDepth 100000 in
set_option maxHeartbeats 4000000 in
theorem kX12_meansHere (l : Launch) {y : Ly} (hJ : ly_J y) (hy : y.2.2.2.2 = 1) {M M1 : QM} {r : Int32} (hF : fX12_meansHere M  = some (r, M1)) : Met l yX12_meansHere wqX12_meansHere rmX12_meansHere (q_P y [.ref (ly_o y 1000)] M) (q_E y (some (.int r)) M1) 0 0 (ly_A y) :=
  q_met (by decide) rfl hJ rfl rfl rfl (fun x K hQ => bX12_meansHere_0 l K hy (z := (r, M1)) hQ  hF)
-- ===== X12_puts (II)V
theorem jd_X12_puts : yX12_puts.cls = RX12 ∧ yX12_puts.cls ≠ "java/lang/invoke/MethodHandle" ∧ yX12_puts.cls ≠ "java/lang/invoke/VarHandle" ∧ (parseMethodDescriptor yX12_puts.desc).map (fun d => d.parameters.length) = some 2 := by decide +kernel
abbrev wqX12_puts : List Cond := .code yX12_puts cX12_puts 3 none :: wsL_law
abbrev rmX12_puts : Room := { frames := 0, cells := 0, slots := 0, locals := 0 }
def fX12_puts (M : QM) (x1 : Int32) (x2 : Int32) : Option QM := (if q_in (q_i M 1000 17) 6 then (q_t (((400 : Int32) * (q_i M 1000 17)) + (q_a M 1000 7 (q_i M 1000 17).toNatClampNeg)) fun v2 => (if q_in v2 2400 then (q_t (p_a M 1000 6 v2.toNatClampNeg (x1 + ((16 : Int32) * x2))) fun M4 => (if q_in (q_i M4 1000 17) 6 then (if q_in (q_i M4 1000 17) 6 then (q_t (p_a M4 1000 7 (q_i M4 1000 17).toNatClampNeg ((q_a M4 1000 7 (q_i M4 1000 17).toNatClampNeg) + (1 : Int32))) fun M7 => some M7) else none) else none)) else none)) else none)
set_option maxRecDepth 100000 in
set_option maxHeartbeats 4000000 in
theorem bX12_puts_0 {x : Cx} {y : Ly} (l : Launch) (K : VK x l rmX12_puts y 3 cX12_puts RX12 wqX12_puts) (hy : y.2.2.2.2 = 1) {z : QM} (hQ : VQ x y none z none) {M : QM} {x1 : Int32} {x2 : Int32} (hF : fX12_puts M x1 x2 = some z) : V x y 3 M 0 [(0, .ref (ly_o y 1000)), (1, .int x1), (2, .int x2)] [] := by
  unfold fX12_puts at hF
  refine v_aload_n (pc := 0) K dX12_puts_0 0 rfl ?_
  refine gX12_row (pc := 1) K hy (by decide) jn_X12 (List.mem_cons_of_mem _ jl_X12_20) dX12_puts_1 ?_
  refine v_sipush (pc := 4) (v := 400) K dX12_puts_4 rfl ?_
  refine v_aload_n (pc := 7) K dX12_puts_7 0 rfl ?_
  refine gX12_text (pc := 8) K hy (by decide) jn_X12 (List.mem_cons_of_mem _ jl_X12_183) dX12_puts_8 ?_
  refine v_imul (pc := 11) K dX12_puts_11 ?_
  refine v_aload_n (pc := 12) K dX12_puts_12 0 rfl ?_
  refine gX12_length (pc := 13) K hy (by decide) jn_X12 (List.mem_cons_of_mem _ jl_X12_23) dX12_puts_13 ?_
  refine v_aload_n (pc := 16) K dX12_puts_16 0 rfl ?_
  refine gX12_text (pc := 17) K hy (by decide) jn_X12 (List.mem_cons_of_mem _ jl_X12_183) dX12_puts_17 ?_
  refine iX12_length (pc := 20) K hy (by decide) hF dX12_puts_20 (fun hi1 hF => ?_)
  refine v_iadd (pc := 21) K dX12_puts_21 ?_
  refine v_nmI hF (fun v2 hF => ?_)
  refine v_iload_n (pc := 22) K dX12_puts_22 1 rfl ?_
  refine v_bipush (pc := 23) (v := 16) K dX12_puts_23 rfl ?_
  refine v_iload_n (pc := 25) K dX12_puts_25 2 rfl ?_
  refine v_imul (pc := 26) K dX12_puts_26 ?_
  refine v_iadd (pc := 27) K dX12_puts_27 ?_
  refine uX12_row (pc := 28) K hy (by decide) hF dX12_puts_28 (fun hi3 hF => ?_)
  refine v_nmM hF (fun M4 hF => ?_)
  refine v_aload_n (pc := 29) K dX12_puts_29 0 rfl ?_
  refine gX12_length (pc := 30) K hy (by decide) jn_X12 (List.mem_cons_of_mem _ jl_X12_23) dX12_puts_30 ?_
  refine v_aload_n (pc := 33) K dX12_puts_33 0 rfl ?_
  refine gX12_text (pc := 34) K hy (by decide) jn_X12 (List.mem_cons_of_mem _ jl_X12_183) dX12_puts_34 ?_
  refine v_dup2 (pc := 37) K dX12_puts_37 rfl rfl ?_
  refine iX12_length (pc := 38) K hy (by decide) hF dX12_puts_38 (fun hi5 hF => ?_)
  refine v_iconst (pc := 39) (v := 1) K dX12_puts_39 rfl ?_
  refine v_iadd (pc := 40) K dX12_puts_40 ?_
  refine uX12_length (pc := 41) K hy (by decide) hF dX12_puts_41 (fun hi6 hF => ?_)
  refine v_nmM hF (fun M7 hF => ?_)
  have hz := (Option.some.inj hF).symm
  subst hz
  exact v_vret (pc := 42) K hQ dX12_puts_42
set_option maxRecDepth 100000 in
set_option maxHeartbeats 4000000 in
theorem kX12_puts (l : Launch) {y : Ly} (hJ : ly_J y) (hy : y.2.2.2.2 = 1) {M M1 : QM} {x1 : Int32} {x2 : Int32} (hF : fX12_puts M x1 x2 = some M1) : Met l yX12_puts wqX12_puts rmX12_puts (q_P y [.ref (ly_o y 1000), .int x1, .int x2] M) (q_E y none M1) 0 0 (ly_A y) :=
  q_met (by decide) rfl hJ rfl rfl rfl (fun x K hQ => bX12_puts_0 l K hy (z := M1) hQ  hF)
-- ===== X12_makes (I)Z
theorem jd_X12_makes : yX12_makes.cls = RX12 ∧ yX12_makes.cls ≠ "java/lang/invoke/MethodHandle" ∧ yX12_makes.cls ≠ "java/lang/invoke/VarHandle" ∧ (parseMethodDescriptor yX12_makes.desc).map (fun d => d.parameters.length) = some 1 := by decide +kernel
abbrev wqX12_makes : List Cond := .code yX12_makes cX12_makes 2 (some .boolean) :: wsL_law
abbrev rmX12_makes : Room := { frames := 1, cells := 0, slots := 0, locals := 22 }
def fX12_makes (M : QM) (x1 : Int32) : Option (Int32 × QM) := if (q_i M 1000 18) ≠ (50 : Int32) then (q_t (p_i M 1000 18 ((q_i M 1000 18) + (1 : Int32))) fun M1 => some ((1 : Int32), M1)) else (q_b (fX12_fails M (3 : Int32) x1) fun r3 M4 => if q_z r3 then some (r3, M4) else none)
set_option maxRecDepth 100000 in
set_option maxHeartbeats 4000000 in
theorem bX12_makes_0 {x : Cx} {y : Ly} (l : Launch) (K : VK x l rmX12_makes y 2 cX12_makes RX12 wqX12_makes) (hy : y.2.2.2.2 = 1) {z : Int32 × QM} (hQ : VQ x y (some (.int z.1)) z.2 (some .boolean)) {M : QM} {x1 : Int32} (hF : fX12_makes M x1 = some z) : V x y 2 M 0 [(0, .ref (ly_o y 1000)), (1, .int x1)] [] := by
  unfold fX12_makes at hF
  refine v_aload_n (pc := 0) K dX12_makes_0 0 rfl ?_
  refine gX12_made (pc := 1) K hy (by decide) jn_X12 (List.mem_cons_of_mem _ jl_X12_186) dX12_makes_1 ?_
  refine v_bipush (pc := 4) (v := 50) K dX12_makes_4 rfl ?_
  refine v_icmp_ne (pc := 6) (tgt := 16) K dX12_makes_6 (by decide) hF (fun c6 hF => ?_) (fun c6 hF => ?_)
  · refine v_aload_n (pc := 16) K dX12_makes_16 0 rfl ?_
    refine v_dup (pc := 17) K dX12_makes_17 rfl ?_
    refine gX12_made (pc := 18) K hy (by decide) jn_X12 (List.mem_cons_of_mem _ jl_X12_186) dX12_makes_18 ?_
    refine v_iconst (pc := 21) (v := 1) K dX12_makes_21 rfl ?_
    refine v_iadd (pc := 22) K dX12_makes_22 ?_
    refine pX12_made (pc := 23) K hy (by decide) jn_X12 (List.mem_cons_of_mem _ jl_X12_186) dX12_makes_23 ?_
    refine v_nmM hF (fun M1 hF => ?_)
    refine v_iconst (pc := 26) (v := 1) K dX12_makes_26 rfl ?_
    have hz := (Option.some.inj hF).symm
    subst hz
    exact v_zret (pc := 27) K hQ rfl dX12_makes_27
  · refine v_aload_n (pc := 9) K dX12_makes_9 0 rfl ?_
    refine v_iconst (pc := 10) (v := 3) K dX12_makes_10 rfl ?_
    refine v_iload_n (pc := 11) K dX12_makes_11 1 rfl ?_
    obtain ⟨r3, M4, hc2, hF⟩ := q_bE hF
    refine v_callV (pc := 12) (ci := 11) (As := [.int (3 : Int32), .int x1]) (rest := []) (st' := [.int r3]) (r := some (.int r3)) (M1 := M4) K (kX12_fails l K.2.2.2.2.2.2.1 hy hc2) (jg_V jl_X12_141 jw_i_X12_fails jw_s_X12_fails jw_n_X12 jw_c_X12_fails) rfl rfl rfl jd_X12_fails ⟨Nat.le_of_ble_eq_true rfl, Nat.le_of_ble_eq_true rfl⟩ rfl rfl (Nat.le_of_ble_eq_true rfl) (by decide) (okc_1 hy) rfl dX12_makes_12 rfl ?_
    obtain ⟨hz5, hF⟩ := q_kE hF
    have hz := (Option.some.inj hF).symm
    subst hz
    exact v_zret (pc := 15) K hQ (q_zn hz5) dX12_makes_15
set_option maxRecDepth 100000 in
set_option maxHeartbeats 4000000 in
theorem kX12_makes (l : Launch) {y : Ly} (hJ : ly_J y) (hy : y.2.2.2.2 = 1) {M M1 : QM} {r : Int32} {x1 : Int32} (hF : fX12_makes M x1 = some (r, M1)) : Met l yX12_makes wqX12_makes rmX12_makes (q_P y [.ref (ly_o y 1000), .int x1] M) (q_E y (some (.int r)) M1) 0 0 (ly_A y) :=
  q_met (by decide) rfl hJ rfl rfl rfl (fun x K hQ => bX12_makes_0 l K hy (z := (r, M1)) hQ  hF)
-- ===== X12_value ()Z
theorem jd_X12_value : yX12_value.cls = RX12 ∧ yX12_value.cls ≠ "java/lang/invoke/MethodHandle" ∧ yX12_value.cls ≠ "java/lang/invoke/VarHandle" ∧ (parseMethodDescriptor yX12_value.desc).map (fun d => d.parameters.length) = some 0 := by decide +kernel
abbrev wqX12_value : List Cond := .code yX12_value cX12_value 3 (some .boolean) :: wsL_law
abbrev rmX12_value : Room := { frames := 3, cells := 0, slots := 0, locals := 66 }
def fX12_value (M : QM) : Option (Int32 × QM) := (q_b (fX12_see M) fun r2 M3 => (q_b (fX12_isDigit M3 (q_i M3 1000 14)) fun r5 M6 => if r5 = (0 : Int32) then (q_b (fX12_wordHere M6) fun r8 M9 => if (0 : Int32) ≤ r8 then (q_b (fX12_makes M9 (q_i M3 1000 14)) fun r11 M12 => if r11 ≠ (0 : Int32) then (q_bv (fX12_passWord M12) fun M15 => (q_bv (fX12_puts M15 (1 : Int32) r8) fun M18 => some ((1 : Int32), M18))) else some ((0 : Int32), M12)) else (q_b (fX12_fails M9 (0 : Int32) (q_i M3 1000 14)) fun r21 M22 => if q_z r21 then some (r21, M22) else none)) else (q_b (fX12_number M6 (0 : Int32) (9999 : Int32)) fun r26 M27 => if r26 = (0 : Int32) then some ((0 : Int32), M27) else (q_b (fX12_makes M27 (q_i M3 1000 14)) fun r29 M30 => if r29 ≠ (0 : Int32) then (q_bv (fX12_puts M30 (0 : Int32) (q_i M30 1000 16)) fun M33 => some ((1 : Int32), M33)) else some ((0 : Int32), M30)))))
set_option maxRecDepth 100000 in
set_option maxHeartbeats 4000000 in
theorem bX12_value_0 {x : Cx} {y : Ly} (l : Launch) (K : VK x l rmX12_value y 3 cX12_value RX12 wqX12_value) (hy : y.2.2.2.2 = 1) {z : Int32 × QM} (hQ : VQ x y (some (.int z.1)) z.2 (some .boolean)) {M : QM} (hF : fX12_value M  = some z) : V x y 3 M 0 [(0, .ref (ly_o y 1000))] [] := by
  unfold fX12_value at hF
  refine v_aload_n (pc := 0) K dX12_value_0 0 rfl ?_
  obtain ⟨r2, M3, hc1, hF⟩ := q_bE hF
  refine v_callV (pc := 1) (ci := 11) (As := []) (rest := []) (st' := [.int r2]) (r := some (.int r2)) (M1 := M3) K (kX12_see l K.2.2.2.2.2.2.1 hy hc1) (jg_V jl_X12_124 jw_i_X12_see jw_s_X12_see jw_n_X12 jw_c_X12_see) rfl rfl rfl jd_X12_see ⟨Nat.le_of_ble_eq_true rfl, Nat.le_of_ble_eq_true rfl⟩ rfl rfl (Nat.le_of_ble_eq_true rfl) (by decide) (okc_1 hy) rfl dX12_value_1 rfl ?_
  refine v_pop (pc := 4) K dX12_value_4 rfl ?_
  refine v_aload_n (pc := 5) K dX12_value_5 0 rfl ?_
  refine gX12_next (pc := 6) K hy (by decide) jn_X12 (List.mem_cons_of_mem _ jl_X12_121) dX12_value_6 ?_
  refine v_istore_n (pc := 9) (lv' := [(1, .int (q_i M3 1000 14)), (0, .ref (ly_o y 1000))]) K dX12_value_9 1 rfl (by decide) rfl ?_
  refine v_aload_n (pc := 10) K dX12_value_10 1 rfl ?_
  refine v_aload_n (pc := 11) K dX12_value_11 1 rfl ?_
  refine gX12_next (pc := 12) K hy (by decide) jn_X12 (List.mem_cons_of_mem _ jl_X12_121) dX12_value_12 ?_
  obtain ⟨r5, M6, hc4, hF⟩ := q_bE hF
  refine v_callV (pc := 15) (ci := 11) (As := [.int (q_i M3 1000 14)]) (rest := []) (st' := [.int r5]) (r := some (.int r5)) (M1 := M6) K (kX12_isDigit l K.2.2.2.2.2.2.1 hy hc4) (jg_V jl_X12_138 jw_i_X12_isDigit jw_s_X12_isDigit jw_n_X12 jw_c_X12_isDigit) rfl rfl rfl jd_X12_isDigit ⟨Nat.le_of_ble_eq_true rfl, Nat.le_of_ble_eq_true rfl⟩ rfl rfl (Nat.le_of_ble_eq_true rfl) (by decide) (okc_1 hy) rfl dX12_value_15 rfl ?_
  refine v_if_eq (pc := 18) (tgt := 53) K dX12_value_18 (by decide) hF (fun c36 hF => ?_) (fun c36 hF => ?_)
  · refine v_aload_n (pc := 53) K dX12_value_53 1 rfl ?_
    obtain ⟨r8, M9, hc7, hF⟩ := q_bE hF
    refine v_callV (pc := 54) (ci := 11) (As := []) (rest := []) (st' := [.int r8]) (r := some (.int r8)) (M1 := M9) K (kX12_wordHere l K.2.2.2.2.2.2.1 hy hc7) (jg_V jl_X12_199 jw_i_X12_wordHere jw_s_X12_wordHere jw_n_X12 jw_c_X12_wordHere) rfl rfl rfl jd_X12_wordHere ⟨Nat.le_of_ble_eq_true rfl, Nat.le_of_ble_eq_true rfl⟩ rfl rfl (Nat.le_of_ble_eq_true rfl) (by decide) (okc_1 hy) rfl dX12_value_54 rfl ?_
    refine v_istore_n (pc := 57) (lv' := [(2, .int r8), (1, .int (q_i M3 1000 14)), (0, .ref (ly_o y 1000))]) K dX12_value_57 2 rfl (by decide) rfl ?_
    refine v_iload_n (pc := 58) K dX12_value_58 0 rfl ?_
    refine v_if_ge (pc := 59) (tgt := 69) K dX12_value_59 (by decide) hF (fun c24 hF => ?_) (fun c24 hF => ?_)
    · refine v_aload_n (pc := 69) K dX12_value_69 2 rfl ?_
      refine v_iload_n (pc := 70) K dX12_value_70 1 rfl ?_
      obtain ⟨r11, M12, hc10, hF⟩ := q_bE hF
      refine v_callV (pc := 71) (ci := 11) (As := [.int (q_i M3 1000 14)]) (rest := []) (st' := [.int r11]) (r := some (.int r11)) (M1 := M12) K (kX12_makes l K.2.2.2.2.2.2.1 hy hc10) (jg_V jl_X12_192 jw_i_X12_makes jw_s_X12_makes jw_n_X12 jw_c_X12_makes) rfl rfl rfl jd_X12_makes ⟨Nat.le_of_ble_eq_true rfl, Nat.le_of_ble_eq_true rfl⟩ rfl rfl (Nat.le_of_ble_eq_true rfl) (by decide) (okc_1 hy) rfl dX12_value_71 rfl ?_
      refine v_if_ne (pc := 74) (tgt := 79) K dX12_value_74 (by decide) hF (fun c19 hF => ?_) (fun c19 hF => ?_)
      · refine v_aload_n (pc := 79) K dX12_value_79 2 rfl ?_
        obtain ⟨M15, hc13, hF⟩ := q_bvE hF
        refine v_callV (pc := 80) (ci := 11) (As := []) (rest := []) (st' := []) (r := none) (M1 := M15) K (kX12_passWord l K.2.2.2.2.2.2.1 hy hc13) (jg_V jl_X12_135 jw_i_X12_passWord jw_s_X12_passWord jw_n_X12 jw_c_X12_passWord) rfl rfl rfl jd_X12_passWord ⟨Nat.le_of_ble_eq_true rfl, Nat.le_of_ble_eq_true rfl⟩ rfl rfl (Nat.le_of_ble_eq_true rfl) (by decide) (okc_1 hy) rfl dX12_value_80 rfl ?_
        refine v_aload_n (pc := 83) K dX12_value_83 2 rfl ?_
        refine v_iconst (pc := 84) (v := 1) K dX12_value_84 rfl ?_
        refine v_iload_n (pc := 85) K dX12_value_85 0 rfl ?_
        obtain ⟨M18, hc16, hF⟩ := q_bvE hF
        refine v_callV (pc := 86) (ci := 11) (As := [.int (1 : Int32), .int r8]) (rest := []) (st' := []) (r := none) (M1 := M18) K (kX12_puts l K.2.2.2.2.2.2.1 hy hc16) (jg_V jl_X12_195 jw_i_X12_puts jw_s_X12_puts jw_n_X12 jw_c_X12_puts) rfl rfl rfl jd_X12_puts ⟨Nat.le_of_ble_eq_true rfl, Nat.le_of_ble_eq_true rfl⟩ rfl rfl (Nat.le_of_ble_eq_true rfl) (by decide) (okc_1 hy) rfl dX12_value_86 rfl ?_
        refine v_iconst (pc := 89) (v := 1) K dX12_value_89 rfl ?_
        have hz := (Option.some.inj hF).symm
        subst hz
        exact v_zret (pc := 90) K hQ rfl dX12_value_90
      · refine v_iconst (pc := 77) (v := 0) K dX12_value_77 rfl ?_
        have hz := (Option.some.inj hF).symm
        subst hz
        exact v_zret (pc := 78) K hQ rfl dX12_value_78
    · refine v_aload_n (pc := 62) K dX12_value_62 2 rfl ?_
      refine v_iconst (pc := 63) (v := 0) K dX12_value_63 rfl ?_
      refine v_iload_n (pc := 64) K dX12_value_64 1 rfl ?_
      obtain ⟨r21, M22, hc20, hF⟩ := q_bE hF
      refine v_callV (pc := 65) (ci := 11) (As := [.int (0 : Int32), .int (q_i M3 1000 14)]) (rest := []) (st' := [.int r21]) (r := some (.int r21)) (M1 := M22) K (kX12_fails l K.2.2.2.2.2.2.1 hy hc20) (jg_V jl_X12_141 jw_i_X12_fails jw_s_X12_fails jw_n_X12 jw_c_X12_fails) rfl rfl rfl jd_X12_fails ⟨Nat.le_of_ble_eq_true rfl, Nat.le_of_ble_eq_true rfl⟩ rfl rfl (Nat.le_of_ble_eq_true rfl) (by decide) (okc_1 hy) rfl dX12_value_65 rfl ?_
      obtain ⟨hz23, hF⟩ := q_kE hF
      have hz := (Option.some.inj hF).symm
      subst hz
      exact v_zret (pc := 68) K hQ (q_zn hz23) dX12_value_68
  · refine v_aload_n (pc := 21) K dX12_value_21 1 rfl ?_
    refine v_iconst (pc := 22) (v := 0) K dX12_value_22 rfl ?_
    refine v_sipush (pc := 23) (v := 9999) K dX12_value_23 rfl ?_
    obtain ⟨r26, M27, hc25, hF⟩ := q_bE hF
    refine v_callV (pc := 26) (ci := 11) (As := [.int (0 : Int32), .int (9999 : Int32)]) (rest := []) (st' := [.int r26]) (r := some (.int r26)) (M1 := M27) K (kX12_number l K.2.2.2.2.2.2.1 hy hc25) (jg_V jl_X12_189 jw_i_X12_number jw_s_X12_number jw_n_X12 jw_c_X12_number) rfl rfl rfl jd_X12_number ⟨Nat.le_of_ble_eq_true rfl, Nat.le_of_ble_eq_true rfl⟩ rfl rfl (Nat.le_of_ble_eq_true rfl) (by decide) (okc_1 hy) rfl dX12_value_26 rfl ?_
    refine v_if_eq (pc := 29) (tgt := 40) K dX12_value_29 (by decide) hF (fun c35 hF => ?_) (fun c35 hF => ?_)
    · refine v_iconst (pc := 40) (v := 0) K dX12_value_40 rfl ?_
      have hz := (Option.some.inj hF).symm
      subst hz
      exact v_zret (pc := 41) K hQ rfl dX12_value_41
    · refine v_aload_n (pc := 32) K dX12_value_32 1 rfl ?_
      refine v_iload_n (pc := 33) K dX12_value_33 0 rfl ?_
      obtain ⟨r29, M30, hc28, hF⟩ := q_bE hF
      refine v_callV (pc := 34) (ci := 11) (As := [.int (q_i M3 1000 14)]) (rest := []) (st' := [.int r29]) (r := some (.int r29)) (M1 := M30) K (kX12_makes l K.2.2.2.2.2.2.1 hy hc28) (jg_V jl_X12_192 jw_i_X12_makes jw_s_X12_makes jw_n_X12 jw_c_X12_makes) rfl rfl rfl jd_X12_makes ⟨Nat.le_of_ble_eq_true rfl, Nat.le_of_ble_eq_true rfl⟩ rfl rfl (Nat.le_of_ble_eq_true rfl) (by decide) (okc_1 hy) rfl dX12_value_34 rfl ?_
      refine v_if_ne (pc := 37) (tgt := 42) K dX12_value_37 (by decide) hF (fun c34 hF => ?_) (fun c34 hF => ?_)
      · refine v_aload_n (pc := 42) K dX12_value_42 1 rfl ?_
        refine v_iconst (pc := 43) (v := 0) K dX12_value_43 rfl ?_
        refine v_aload_n (pc := 44) K dX12_value_44 1 rfl ?_
        refine gX12_said (pc := 45) K hy (by decide) jn_X12 (List.mem_cons_of_mem _ jl_X12_144) dX12_value_45 ?_
        obtain ⟨M33, hc31, hF⟩ := q_bvE hF
        refine v_callV (pc := 48) (ci := 11) (As := [.int (0 : Int32), .int (q_i M30 1000 16)]) (rest := []) (st' := []) (r := none) (M1 := M33) K (kX12_puts l K.2.2.2.2.2.2.1 hy hc31) (jg_V jl_X12_195 jw_i_X12_puts jw_s_X12_puts jw_n_X12 jw_c_X12_puts) rfl rfl rfl jd_X12_puts ⟨Nat.le_of_ble_eq_true rfl, Nat.le_of_ble_eq_true rfl⟩ rfl rfl (Nat.le_of_ble_eq_true rfl) (by decide) (okc_1 hy) rfl dX12_value_48 rfl ?_
        refine v_iconst (pc := 51) (v := 1) K dX12_value_51 rfl ?_
        have hz := (Option.some.inj hF).symm
        subst hz
        exact v_zret (pc := 52) K hQ rfl dX12_value_52
      · refine v_iconst (pc := 40) (v := 0) K dX12_value_40 rfl ?_
        have hz := (Option.some.inj hF).symm
        subst hz
        exact v_zret (pc := 41) K hQ rfl dX12_value_41
set_option maxRecDepth 100000 in
set_option maxHeartbeats 4000000 in
theorem kX12_value (l : Launch) {y : Ly} (hJ : ly_J y) (hy : y.2.2.2.2 = 1) {M M1 : QM} {r : Int32} (hF : fX12_value M  = some (r, M1)) : Met l yX12_value wqX12_value rmX12_value (q_P y [.ref (ly_o y 1000)] M) (q_E y (some (.int r)) M1) 0 0 (ly_A y) :=
  q_met (by decide) rfl hJ rfl rfl rfl (fun x K hQ => bX12_value_0 l K hy (z := (r, M1)) hQ  hF)
-- ===== X12_sum ()Z
theorem jd_X12_sum : yX12_sum.cls = RX12 ∧ yX12_sum.cls ≠ "java/lang/invoke/MethodHandle" ∧ yX12_sum.cls ≠ "java/lang/invoke/VarHandle" ∧ (parseMethodDescriptor yX12_sum.desc).map (fun d => d.parameters.length) = some 0 := by decide +kernel
abbrev wqX12_sum : List Cond := .code yX12_sum cX12_sum 2 (some .boolean) :: wsL_law
abbrev rmX12_sum : Room := { frames := 4, cells := 0, slots := 0, locals := 88 }
def fX12_sum_b46 (k9 : QM → Option (Int32 × QM)) (M : QM) (s0 : Int32) : Option (Int32 × QM) := (q_t (p_i M 1000 14 ((q_i M 1000 14) + (1 : Int32))) fun M15 => (q_b (fX12_value M15) fun r17 M18 => if r17 ≠ (0 : Int32) then (q_bv (fX12_puts M18 s0 (0 : Int32)) fun M21 => (k9 M21)) else some ((0 : Int32), M18)))
set_option maxRecDepth 100000 in
set_option maxHeartbeats 4000000 in
theorem bX12_sum_46 {x : Cx} {y : Ly} (l : Launch) (K : VK x l rmX12_sum y 2 cX12_sum RX12 wqX12_sum) (hy : y.2.2.2.2 = 1) {z : Int32 × QM} (hQ : VQ x y (some (.int z.1)) z.2 (some .boolean)) {k9 : QM → Option (Int32 × QM)} (hk9 : ∀ {M : QM} , k9 M = some z → V x y 2 M 9 [(0, .ref (ly_o y 1000))] []) {M : QM} {s0 : Int32} (hF : fX12_sum_b46 k9 M s0 = some z) : V x y 2 M 46 [(0, .ref (ly_o y 1000))] [.int s0] := by
  unfold fX12_sum_b46 at hF
  refine v_istore_n (pc := 46) (lv' := [(1, .int s0), (0, .ref (ly_o y 1000))]) K dX12_sum_46 1 rfl (by decide) rfl ?_
  refine v_aload_n (pc := 47) K dX12_sum_47 1 rfl ?_
  refine v_dup (pc := 48) K dX12_sum_48 rfl ?_
  refine gX12_next (pc := 49) K hy (by decide) jn_X12 (List.mem_cons_of_mem _ jl_X12_121) dX12_sum_49 ?_
  refine v_iconst (pc := 52) (v := 1) K dX12_sum_52 rfl ?_
  refine v_iadd (pc := 53) K dX12_sum_53 ?_
  refine pX12_next (pc := 54) K hy (by decide) jn_X12 (List.mem_cons_of_mem _ jl_X12_121) dX12_sum_54 ?_
  refine v_nmM hF (fun M15 hF => ?_)
  refine v_aload_n (pc := 57) K dX12_sum_57 1 rfl ?_
  obtain ⟨r17, M18, hc16, hF⟩ := q_bE hF
  refine v_callV (pc := 58) (ci := 11) (As := []) (rest := []) (st' := [.int r17]) (r := some (.int r17)) (M1 := M18) K (kX12_value l K.2.2.2.2.2.2.1 hy hc16) (jg_V jl_X12_202 jw_i_X12_value jw_s_X12_value jw_n_X12 jw_c_X12_value) rfl rfl rfl jd_X12_value ⟨Nat.le_of_ble_eq_true rfl, Nat.le_of_ble_eq_true rfl⟩ rfl rfl (Nat.le_of_ble_eq_true rfl) (by decide) (okc_1 hy) rfl dX12_sum_58 rfl ?_
  refine v_if_ne (pc := 61) (tgt := 66) K dX12_sum_61 (by decide) hF (fun c22 hF => ?_) (fun c22 hF => ?_)
  · refine v_aload_n (pc := 66) K dX12_sum_66 1 rfl ?_
    refine v_iload_n (pc := 67) K dX12_sum_67 0 rfl ?_
    refine v_iconst (pc := 68) (v := 0) K dX12_sum_68 rfl ?_
    obtain ⟨M21, hc19, hF⟩ := q_bvE hF
    refine v_callV (pc := 69) (ci := 11) (As := [.int s0, .int (0 : Int32)]) (rest := []) (st' := []) (r := none) (M1 := M21) K (kX12_puts l K.2.2.2.2.2.2.1 hy hc19) (jg_V jl_X12_195 jw_i_X12_puts jw_s_X12_puts jw_n_X12 jw_c_X12_puts) rfl rfl rfl jd_X12_puts ⟨Nat.le_of_ble_eq_true rfl, Nat.le_of_ble_eq_true rfl⟩ rfl rfl (Nat.le_of_ble_eq_true rfl) (by decide) (okc_1 hy) rfl dX12_sum_69 rfl ?_
    refine v_goto (pc := 72) (tgt := 9) K dX12_sum_72 (by decide) ?_
    refine v_sub [1] rfl ?_
    exact hk9 hF
  · refine v_iconst (pc := 64) (v := 0) K dX12_sum_64 rfl ?_
    have hz := (Option.some.inj hF).symm
    subst hz
    exact v_zret (pc := 65) K hQ rfl dX12_sum_65
def fX12_sum_b27 (k9 : QM → Option (Int32 × QM)) (M : QM) : Option (Int32 × QM) := (if q_in (q_i M 1000 14) 400 then if (q_a M 1000 3 (q_i M 1000 14).toNatClampNeg) ≠ (43 : Int32) then (fX12_sum_b46 k9 M (3 : Int32)) else (fX12_sum_b46 k9 M (2 : Int32)) else none)
set_option maxRecDepth 100000 in
set_option maxHeartbeats 4000000 in
theorem bX12_sum_27 {x : Cx} {y : Ly} (l : Launch) (K : VK x l rmX12_sum y 2 cX12_sum RX12 wqX12_sum) (hy : y.2.2.2.2 = 1) {z : Int32 × QM} (hQ : VQ x y (some (.int z.1)) z.2 (some .boolean)) {k9 : QM → Option (Int32 × QM)} (hk9 : ∀ {M : QM} , k9 M = some z → V x y 2 M 9 [(0, .ref (ly_o y 1000))] []) {M : QM} (hF : fX12_sum_b27 k9 M  = some z) : V x y 2 M 27 [(0, .ref (ly_o y 1000))] [] := by
  unfold fX12_sum_b27 at hF
  refine v_aload_n (pc := 27) K dX12_sum_27 0 rfl ?_
  refine gX12_tape (pc := 28) K hy (by decide) jn_X12 (List.mem_cons_of_mem _ jl_X12_16) dX12_sum_28 ?_
  refine v_aload_n (pc := 31) K dX12_sum_31 0 rfl ?_
  refine gX12_next (pc := 32) K hy (by decide) jn_X12 (List.mem_cons_of_mem _ jl_X12_121) dX12_sum_32 ?_
  refine iX12_tape (pc := 35) K hy (by decide) hF dX12_sum_35 (fun hi13 hF => ?_)
  refine v_bipush (pc := 36) (v := 43) K dX12_sum_36 rfl ?_
  refine v_icmp_ne (pc := 38) (tgt := 45) K dX12_sum_38 (by decide) hF (fun c14 hF => ?_) (fun c14 hF => ?_)
  · refine v_iconst (pc := 45) (v := 3) K dX12_sum_45 rfl ?_
    exact bX12_sum_46 l K hy hQ hk9 hF
  · refine v_iconst (pc := 41) (v := 2) K dX12_sum_41 rfl ?_
    refine v_goto (pc := 42) (tgt := 46) K dX12_sum_42 (by decide) ?_
    exact bX12_sum_46 l K hy hQ hk9 hF
def fX12_sum_b9 : Nat → QM → Option (Int32 × QM)
  | 0, _ => none
  | q + 1, M => (q_b (fX12_see M) fun r6 M7 => if r6 = (43 : Int32) then (fX12_sum_b27 (fun M => fX12_sum_b9 q M) M7) else (q_b (fX12_see M7) fun r9 M10 => if r9 ≠ (45 : Int32) then some ((1 : Int32), M10) else (fX12_sum_b27 (fun M => fX12_sum_b9 q M) M10)))
set_option maxRecDepth 100000 in
set_option maxHeartbeats 4000000 in
theorem bX12_sum_9 {x : Cx} {y : Ly} (l : Launch) (K : VK x l rmX12_sum y 2 cX12_sum RX12 wqX12_sum) (hy : y.2.2.2.2 = 1) {z : Int32 × QM} (hQ : VQ x y (some (.int z.1)) z.2 (some .boolean)) : ∀ (q : Nat) {M : QM} ,  fX12_sum_b9 q M  = some z → V x y 2 M 9 [(0, .ref (ly_o y 1000))] [] := by
  intro q
  induction q with
  | zero =>
    intro M   hF
    rw [fX12_sum_b9] at hF
    cases hF
  | succ q ih =>
    intro M   hF
    rw [fX12_sum_b9] at hF
    refine v_aload_n (pc := 9) K dX12_sum_9 0 rfl ?_
    obtain ⟨r6, M7, hc5, hF⟩ := q_bE hF
    refine v_callV (pc := 10) (ci := 11) (As := []) (rest := []) (st' := [.int r6]) (r := some (.int r6)) (M1 := M7) K (kX12_see l K.2.2.2.2.2.2.1 hy hc5) (jg_V jl_X12_124 jw_i_X12_see jw_s_X12_see jw_n_X12 jw_c_X12_see) rfl rfl rfl jd_X12_see ⟨Nat.le_of_ble_eq_true rfl, Nat.le_of_ble_eq_true rfl⟩ rfl rfl (Nat.le_of_ble_eq_true rfl) (by decide) (okc_1 hy) rfl dX12_sum_10 rfl ?_
    refine v_bipush (pc := 13) (v := 43) K dX12_sum_13 rfl ?_
    refine v_icmp_eq (pc := 15) (tgt := 27) K dX12_sum_15 (by decide) hF (fun c12 hF => ?_) (fun c12 hF => ?_)
    · exact bX12_sum_27 l K hy hQ ih hF
    · refine v_aload_n (pc := 18) K dX12_sum_18 0 rfl ?_
      obtain ⟨r9, M10, hc8, hF⟩ := q_bE hF
      refine v_callV (pc := 19) (ci := 11) (As := []) (rest := []) (st' := [.int r9]) (r := some (.int r9)) (M1 := M10) K (kX12_see l K.2.2.2.2.2.2.1 hy hc8) (jg_V jl_X12_124 jw_i_X12_see jw_s_X12_see jw_n_X12 jw_c_X12_see) rfl rfl rfl jd_X12_see ⟨Nat.le_of_ble_eq_true rfl, Nat.le_of_ble_eq_true rfl⟩ rfl rfl (Nat.le_of_ble_eq_true rfl) (by decide) (okc_1 hy) rfl dX12_sum_19 rfl ?_
      refine v_bipush (pc := 22) (v := 45) K dX12_sum_22 rfl ?_
      refine v_icmp_ne (pc := 24) (tgt := 75) K dX12_sum_24 (by decide) hF (fun c11 hF => ?_) (fun c11 hF => ?_)
      · refine v_iconst (pc := 75) (v := 1) K dX12_sum_75 rfl ?_
        have hz := (Option.some.inj hF).symm
        subst hz
        exact v_zret (pc := 76) K hQ rfl dX12_sum_76
      · exact bX12_sum_27 l K hy hQ ih hF
def fX12_sum (M : QM) : Option (Int32 × QM) := (q_b (fX12_value M) fun r2 M3 => if r2 ≠ (0 : Int32) then (fX12_sum_b9 q_F M3) else some ((0 : Int32), M3))
set_option maxRecDepth 100000 in
set_option maxHeartbeats 4000000 in
theorem bX12_sum_0 {x : Cx} {y : Ly} (l : Launch) (K : VK x l rmX12_sum y 2 cX12_sum RX12 wqX12_sum) (hy : y.2.2.2.2 = 1) {z : Int32 × QM} (hQ : VQ x y (some (.int z.1)) z.2 (some .boolean)) {M : QM} (hF : fX12_sum M  = some z) : V x y 2 M 0 [(0, .ref (ly_o y 1000))] [] := by
  unfold fX12_sum at hF
  refine v_aload_n (pc := 0) K dX12_sum_0 0 rfl ?_
  obtain ⟨r2, M3, hc1, hF⟩ := q_bE hF
  refine v_callV (pc := 1) (ci := 11) (As := []) (rest := []) (st' := [.int r2]) (r := some (.int r2)) (M1 := M3) K (kX12_value l K.2.2.2.2.2.2.1 hy hc1) (jg_V jl_X12_202 jw_i_X12_value jw_s_X12_value jw_n_X12 jw_c_X12_value) rfl rfl rfl jd_X12_value ⟨Nat.le_of_ble_eq_true rfl, Nat.le_of_ble_eq_true rfl⟩ rfl rfl (Nat.le_of_ble_eq_true rfl) (by decide) (okc_1 hy) rfl dX12_sum_1 rfl ?_
  refine v_if_ne (pc := 4) (tgt := 9) K dX12_sum_4 (by decide) hF (fun c4 hF => ?_) (fun c4 hF => ?_)
  · exact bX12_sum_9 l K hy hQ q_F hF
  · refine v_iconst (pc := 7) (v := 0) K dX12_sum_7 rfl ?_
    have hz := (Option.some.inj hF).symm
    subst hz
    exact v_zret (pc := 8) K hQ rfl dX12_sum_8
set_option maxRecDepth 100000 in
set_option maxHeartbeats 4000000 in
theorem kX12_sum (l : Launch) {y : Ly} (hJ : ly_J y) (hy : y.2.2.2.2 = 1) {M M1 : QM} {r : Int32} (hF : fX12_sum M  = some (r, M1)) : Met l yX12_sum wqX12_sum rmX12_sum (q_P y [.ref (ly_o y 1000)] M) (q_E y (some (.int r)) M1) 0 0 (ly_A y) :=
  q_met (by decide) rfl hJ rfl rfl rfl (fun x K hQ => bX12_sum_0 l K hy (z := (r, M1)) hQ  hF)
-- ===== X12_compare ()Z
theorem jd_X12_compare : yX12_compare.cls = RX12 ∧ yX12_compare.cls ≠ "java/lang/invoke/MethodHandle" ∧ yX12_compare.cls ≠ "java/lang/invoke/VarHandle" ∧ (parseMethodDescriptor yX12_compare.desc).map (fun d => d.parameters.length) = some 0 := by decide +kernel
abbrev wqX12_compare : List Cond := .code yX12_compare cX12_compare 5 (some .boolean) :: wsL_law
abbrev rmX12_compare : Room := { frames := 5, cells := 0, slots := 0, locals := 109 }
def fX12_compare_b152 (M : QM) (s0 : Int32) : Option (Int32 × QM) := (q_b (fX12_sum M) fun r31 M32 => if r31 ≠ (0 : Int32) then (q_bv (fX12_puts M32 ((4 : Int32) + s0) (0 : Int32)) fun M35 => some ((1 : Int32), M35)) else some ((0 : Int32), M32))
set_option maxRecDepth 100000 in
set_option maxHeartbeats 4000000 in
theorem bX12_compare_152 {x : Cx} {y : Ly} (l : Launch) (K : VK x l rmX12_compare y 5 cX12_compare RX12 wqX12_compare) (hy : y.2.2.2.2 = 1) {z : Int32 × QM} (hQ : VQ x y (some (.int z.1)) z.2 (some .boolean)) {M : QM} {s0 : Int32} (hF : fX12_compare_b152 M s0 = some z) : V x y 5 M 152 [(0, .ref (ly_o y 1000))] [.int s0] := by
  unfold fX12_compare_b152 at hF
  refine v_istore (pc := 152) (lv' := [(4, .int s0), (0, .ref (ly_o y 1000))]) K 4 dX12_compare_152 (by decide) rfl ?_
  refine v_aload_n (pc := 154) K dX12_compare_154 1 rfl ?_
  obtain ⟨r31, M32, hc30, hF⟩ := q_bE hF
  refine v_callV (pc := 155) (ci := 11) (As := []) (rest := []) (st' := [.int r31]) (r := some (.int r31)) (M1 := M32) K (kX12_sum l K.2.2.2.2.2.2.1 hy hc30) (jg_V jl_X12_206 jw_i_X12_sum jw_s_X12_sum jw_n_X12 jw_c_X12_sum) rfl rfl rfl jd_X12_sum ⟨Nat.le_of_ble_eq_true rfl, Nat.le_of_ble_eq_true rfl⟩ rfl rfl (Nat.le_of_ble_eq_true rfl) (by decide) (okc_1 hy) rfl dX12_compare_155 rfl ?_
  refine v_if_ne (pc := 158) (tgt := 163) K dX12_compare_158 (by decide) hF (fun c36 hF => ?_) (fun c36 hF => ?_)
  · refine v_aload_n (pc := 163) K dX12_compare_163 1 rfl ?_
    refine v_iconst (pc := 164) (v := 4) K dX12_compare_164 rfl ?_
    refine v_iload (pc := 165) K dX12_compare_165 0 rfl ?_
    refine v_iadd (pc := 167) K dX12_compare_167 ?_
    refine v_iconst (pc := 168) (v := 0) K dX12_compare_168 rfl ?_
    obtain ⟨M35, hc33, hF⟩ := q_bvE hF
    refine v_callV (pc := 169) (ci := 11) (As := [.int ((4 : Int32) + s0), .int (0 : Int32)]) (rest := []) (st' := []) (r := none) (M1 := M35) K (kX12_puts l K.2.2.2.2.2.2.1 hy hc33) (jg_V jl_X12_195 jw_i_X12_puts jw_s_X12_puts jw_n_X12 jw_c_X12_puts) rfl rfl rfl jd_X12_puts ⟨Nat.le_of_ble_eq_true rfl, Nat.le_of_ble_eq_true rfl⟩ rfl rfl (Nat.le_of_ble_eq_true rfl) (by decide) (okc_1 hy) rfl dX12_compare_169 rfl ?_
    refine v_iconst (pc := 172) (v := 1) K dX12_compare_172 rfl ?_
    have hz := (Option.some.inj hF).symm
    subst hz
    exact v_zret (pc := 173) K hQ rfl dX12_compare_173
  · refine v_iconst (pc := 161) (v := 0) K dX12_compare_161 rfl ?_
    have hz := (Option.some.inj hF).symm
    subst hz
    exact v_zret (pc := 162) K hQ rfl dX12_compare_162
def fX12_compare_b105 (M : QM) (x1 : Int32) (x2 : Int32) (x3 : Int32) : Option (Int32 × QM) := (q_b (fX12_makes M x2) fun r23 M24 => if r23 ≠ (0 : Int32) then if x1 ≠ (60 : Int32) then if x1 ≠ (61 : Int32) then if x3 = (0 : Int32) then (fX12_compare_b152 M24 (4 : Int32)) else (fX12_compare_b152 M24 (3 : Int32)) else (fX12_compare_b152 M24 (2 : Int32)) else if x3 = (0 : Int32) then (fX12_compare_b152 M24 (0 : Int32)) else (fX12_compare_b152 M24 (1 : Int32)) else some ((0 : Int32), M24))
set_option maxRecDepth 100000 in
set_option maxHeartbeats 4000000 in
theorem bX12_compare_105 {x : Cx} {y : Ly} (l : Launch) (K : VK x l rmX12_compare y 5 cX12_compare RX12 wqX12_compare) (hy : y.2.2.2.2 = 1) {z : Int32 × QM} (hQ : VQ x y (some (.int z.1)) z.2 (some .boolean)) {M : QM} {x1 : Int32} {x2 : Int32} {x3 : Int32} (hF : fX12_compare_b105 M x1 x2 x3 = some z) : V x y 5 M 105 [(0, .ref (ly_o y 1000)), (1, .int x1), (2, .int x2), (3, .int x3)] [] := by
  unfold fX12_compare_b105 at hF
  refine v_aload_n (pc := 105) K dX12_compare_105 0 rfl ?_
  refine v_iload_n (pc := 106) K dX12_compare_106 2 rfl ?_
  obtain ⟨r23, M24, hc22, hF⟩ := q_bE hF
  refine v_callV (pc := 107) (ci := 11) (As := [.int x2]) (rest := []) (st' := [.int r23]) (r := some (.int r23)) (M1 := M24) K (kX12_makes l K.2.2.2.2.2.2.1 hy hc22) (jg_V jl_X12_192 jw_i_X12_makes jw_s_X12_makes jw_n_X12 jw_c_X12_makes) rfl rfl rfl jd_X12_makes ⟨Nat.le_of_ble_eq_true rfl, Nat.le_of_ble_eq_true rfl⟩ rfl rfl (Nat.le_of_ble_eq_true rfl) (by decide) (okc_1 hy) rfl dX12_compare_107 rfl ?_
  refine v_if_ne (pc := 110) (tgt := 115) K dX12_compare_110 (by decide) hF (fun c29 hF => ?_) (fun c29 hF => ?_)
  · refine v_iload_n (pc := 115) K dX12_compare_115 1 rfl ?_
    refine v_bipush (pc := 116) (v := 60) K dX12_compare_116 rfl ?_
    refine v_icmp_ne (pc := 118) (tgt := 133) K dX12_compare_118 (by decide) hF (fun c28 hF => ?_) (fun c28 hF => ?_)
    · refine v_iload_n (pc := 133) K dX12_compare_133 1 rfl ?_
      refine v_bipush (pc := 134) (v := 61) K dX12_compare_134 rfl ?_
      refine v_icmp_ne (pc := 136) (tgt := 143) K dX12_compare_136 (by decide) hF (fun c26 hF => ?_) (fun c26 hF => ?_)
      · refine v_iload_n (pc := 143) K dX12_compare_143 3 rfl ?_
        refine v_if_eq (pc := 144) (tgt := 151) K dX12_compare_144 (by decide) hF (fun c25 hF => ?_) (fun c25 hF => ?_)
        · refine v_iconst (pc := 151) (v := 4) K dX12_compare_151 rfl ?_
          refine v_sub [0] rfl ?_
          exact bX12_compare_152 l K hy hQ hF
        · refine v_iconst (pc := 147) (v := 3) K dX12_compare_147 rfl ?_
          refine v_goto (pc := 148) (tgt := 152) K dX12_compare_148 (by decide) ?_
          refine v_sub [0] rfl ?_
          exact bX12_compare_152 l K hy hQ hF
      · refine v_iconst (pc := 139) (v := 2) K dX12_compare_139 rfl ?_
        refine v_goto (pc := 140) (tgt := 152) K dX12_compare_140 (by decide) ?_
        refine v_sub [0] rfl ?_
        exact bX12_compare_152 l K hy hQ hF
    · refine v_iload_n (pc := 121) K dX12_compare_121 3 rfl ?_
      refine v_if_eq (pc := 122) (tgt := 129) K dX12_compare_122 (by decide) hF (fun c27 hF => ?_) (fun c27 hF => ?_)
      · refine v_iconst (pc := 129) (v := 0) K dX12_compare_129 rfl ?_
        refine v_goto (pc := 130) (tgt := 152) K dX12_compare_130 (by decide) ?_
        refine v_sub [0] rfl ?_
        exact bX12_compare_152 l K hy hQ hF
      · refine v_iconst (pc := 125) (v := 1) K dX12_compare_125 rfl ?_
        refine v_goto (pc := 126) (tgt := 152) K dX12_compare_126 (by decide) ?_
        refine v_sub [0] rfl ?_
        exact bX12_compare_152 l K hy hQ hF
  · refine v_iconst (pc := 113) (v := 0) K dX12_compare_113 rfl ?_
    have hz := (Option.some.inj hF).symm
    subst hz
    exact v_zret (pc := 114) K hQ rfl dX12_compare_114
def fX12_compare_b90 (M : QM) (x1 : Int32) (x2 : Int32) (s0 : Int32) : Option (Int32 × QM) := if s0 = (0 : Int32) then (fX12_compare_b105 M x1 x2 s0) else (q_t (p_i M 1000 14 ((q_i M 1000 14) + (1 : Int32))) fun M20 => (fX12_compare_b105 M20 x1 x2 s0))
set_option maxRecDepth 100000 in
set_option maxHeartbeats 4000000 in
theorem bX12_compare_90 {x : Cx} {y : Ly} (l : Launch) (K : VK x l rmX12_compare y 5 cX12_compare RX12 wqX12_compare) (hy : y.2.2.2.2 = 1) {z : Int32 × QM} (hQ : VQ x y (some (.int z.1)) z.2 (some .boolean)) {M : QM} {x1 : Int32} {x2 : Int32} {s0 : Int32} (hF : fX12_compare_b90 M x1 x2 s0 = some z) : V x y 5 M 90 [(0, .ref (ly_o y 1000)), (1, .int x1), (2, .int x2)] [.int s0] := by
  unfold fX12_compare_b90 at hF
  refine v_istore_n (pc := 90) (lv' := [(3, .int s0), (0, .ref (ly_o y 1000)), (1, .int x1), (2, .int x2)]) K dX12_compare_90 3 rfl (by decide) rfl ?_
  refine v_iload_n (pc := 91) K dX12_compare_91 0 rfl ?_
  refine v_if_eq (pc := 92) (tgt := 105) K dX12_compare_92 (by decide) hF (fun c21 hF => ?_) (fun c21 hF => ?_)
  · refine v_sub [1, 2, 3, 0] rfl ?_
    exact bX12_compare_105 l K hy hQ hF
  · refine v_aload_n (pc := 95) K dX12_compare_95 1 rfl ?_
    refine v_dup (pc := 96) K dX12_compare_96 rfl ?_
    refine gX12_next (pc := 97) K hy (by decide) jn_X12 (List.mem_cons_of_mem _ jl_X12_121) dX12_compare_97 ?_
    refine v_iconst (pc := 100) (v := 1) K dX12_compare_100 rfl ?_
    refine v_iadd (pc := 101) K dX12_compare_101 ?_
    refine pX12_next (pc := 102) K hy (by decide) jn_X12 (List.mem_cons_of_mem _ jl_X12_121) dX12_compare_102 ?_
    refine v_nmM hF (fun M20 hF => ?_)
    refine v_sub [1, 2, 3, 0] rfl ?_
    exact bX12_compare_105 l K hy hQ hF
def fX12_compare_b89 (M : QM) (x1 : Int32) (x2 : Int32) : Option (Int32 × QM) := (fX12_compare_b90 M x1 x2 (0 : Int32))
set_option maxRecDepth 100000 in
set_option maxHeartbeats 4000000 in
theorem bX12_compare_89 {x : Cx} {y : Ly} (l : Launch) (K : VK x l rmX12_compare y 5 cX12_compare RX12 wqX12_compare) (hy : y.2.2.2.2 = 1) {z : Int32 × QM} (hQ : VQ x y (some (.int z.1)) z.2 (some .boolean)) {M : QM} {x1 : Int32} {x2 : Int32} (hF : fX12_compare_b89 M x1 x2 = some z) : V x y 5 M 89 [(0, .ref (ly_o y 1000)), (1, .int x1), (2, .int x2)] [] := by
  unfold fX12_compare_b89 at hF
  refine v_iconst (pc := 89) (v := 0) K dX12_compare_89 rfl ?_
  exact bX12_compare_90 l K hy hQ hF
def fX12_compare_b44 (M : QM) (x1 : Int32) (x2 : Int32) : Option (Int32 × QM) := (q_t (p_i M 1000 14 ((q_i M 1000 14) + (1 : Int32))) fun M15 => if x1 = (61 : Int32) then (fX12_compare_b89 M15 x1 x2) else if (q_i M15 1000 4) ≤ (q_i M15 1000 14) then (fX12_compare_b89 M15 x1 x2) else (if q_in (q_i M15 1000 14) 400 then if (q_a M15 1000 3 (q_i M15 1000 14).toNatClampNeg) ≠ (61 : Int32) then (fX12_compare_b89 M15 x1 x2) else (fX12_compare_b90 M15 x1 x2 (1 : Int32)) else none))
set_option maxRecDepth 100000 in
set_option maxHeartbeats 4000000 in
theorem bX12_compare_44 {x : Cx} {y : Ly} (l : Launch) (K : VK x l rmX12_compare y 5 cX12_compare RX12 wqX12_compare) (hy : y.2.2.2.2 = 1) {z : Int32 × QM} (hQ : VQ x y (some (.int z.1)) z.2 (some .boolean)) {M : QM} {x1 : Int32} {x2 : Int32} (hF : fX12_compare_b44 M x1 x2 = some z) : V x y 5 M 44 [(0, .ref (ly_o y 1000)), (1, .int x1), (2, .int x2)] [] := by
  unfold fX12_compare_b44 at hF
  refine v_aload_n (pc := 44) K dX12_compare_44 0 rfl ?_
  refine v_dup (pc := 45) K dX12_compare_45 rfl ?_
  refine gX12_next (pc := 46) K hy (by decide) jn_X12 (List.mem_cons_of_mem _ jl_X12_121) dX12_compare_46 ?_
  refine v_iconst (pc := 49) (v := 1) K dX12_compare_49 rfl ?_
  refine v_iadd (pc := 50) K dX12_compare_50 ?_
  refine pX12_next (pc := 51) K hy (by decide) jn_X12 (List.mem_cons_of_mem _ jl_X12_121) dX12_compare_51 ?_
  refine v_nmM hF (fun M15 hF => ?_)
  refine v_iload_n (pc := 54) K dX12_compare_54 1 rfl ?_
  refine v_bipush (pc := 55) (v := 61) K dX12_compare_55 rfl ?_
  refine v_icmp_eq (pc := 57) (tgt := 89) K dX12_compare_57 (by decide) hF (fun c19 hF => ?_) (fun c19 hF => ?_)
  · exact bX12_compare_89 l K hy hQ hF
  · refine v_aload_n (pc := 60) K dX12_compare_60 0 rfl ?_
    refine gX12_next (pc := 61) K hy (by decide) jn_X12 (List.mem_cons_of_mem _ jl_X12_121) dX12_compare_61 ?_
    refine v_aload_n (pc := 64) K dX12_compare_64 0 rfl ?_
    refine gX12_taped (pc := 65) K hy (by decide) jn_X12 (List.mem_cons_of_mem _ jl_X12_111) dX12_compare_65 ?_
    refine v_icmp_ge (pc := 68) (tgt := 89) K dX12_compare_68 (by decide) hF (fun c18 hF => ?_) (fun c18 hF => ?_)
    · exact bX12_compare_89 l K hy hQ hF
    · refine v_aload_n (pc := 71) K dX12_compare_71 0 rfl ?_
      refine gX12_tape (pc := 72) K hy (by decide) jn_X12 (List.mem_cons_of_mem _ jl_X12_16) dX12_compare_72 ?_
      refine v_aload_n (pc := 75) K dX12_compare_75 0 rfl ?_
      refine gX12_next (pc := 76) K hy (by decide) jn_X12 (List.mem_cons_of_mem _ jl_X12_121) dX12_compare_76 ?_
      refine iX12_tape (pc := 79) K hy (by decide) hF dX12_compare_79 (fun hi16 hF => ?_)
      refine v_bipush (pc := 80) (v := 61) K dX12_compare_80 rfl ?_
      refine v_icmp_ne (pc := 82) (tgt := 89) K dX12_compare_82 (by decide) hF (fun c17 hF => ?_) (fun c17 hF => ?_)
      · exact bX12_compare_89 l K hy hQ hF
      · refine v_iconst (pc := 85) (v := 1) K dX12_compare_85 rfl ?_
        refine v_goto (pc := 86) (tgt := 90) K dX12_compare_86 (by decide) ?_
        exact bX12_compare_90 l K hy hQ hF
def fX12_compare (M : QM) : Option (Int32 × QM) := (q_b (fX12_sum M) fun r2 M3 => if r2 ≠ (0 : Int32) then (q_b (fX12_see M3) fun r5 M6 => if r5 = (60 : Int32) then (fX12_compare_b44 M6 r5 (q_i M6 1000 14)) else if r5 = (61 : Int32) then (fX12_compare_b44 M6 r5 (q_i M6 1000 14)) else if r5 = (62 : Int32) then (fX12_compare_b44 M6 r5 (q_i M6 1000 14)) else (q_b (fX12_fails M6 (0 : Int32) (q_i M6 1000 14)) fun r8 M9 => if q_z r8 then some (r8, M9) else none)) else some ((0 : Int32), M3))
set_option maxRecDepth 100000 in
set_option maxHeartbeats 4000000 in
theorem bX12_compare_0 {x : Cx} {y : Ly} (l : Launch) (K : VK x l rmX12_compare y 5 cX12_compare RX12 wqX12_compare) (hy : y.2.2.2.2 = 1) {z : Int32 × QM} (hQ : VQ x y (some (.int z.1)) z.2 (some .boolean)) {M : QM} (hF : fX12_compare M  = some z) : V x y 5 M 0 [(0, .ref (ly_o y 1000))] [] := by
  unfold fX12_compare at hF
  refine v_aload_n (pc := 0) K dX12_compare_0 0 rfl ?_
  obtain ⟨r2, M3, hc1, hF⟩ := q_bE hF
  refine v_callV (pc := 1) (ci := 11) (As := []) (rest := []) (st' := [.int r2]) (r := some (.int r2)) (M1 := M3) K (kX12_sum l K.2.2.2.2.2.2.1 hy hc1) (jg_V jl_X12_206 jw_i_X12_sum jw_s_X12_sum jw_n_X12 jw_c_X12_sum) rfl rfl rfl jd_X12_sum ⟨Nat.le_of_ble_eq_true rfl, Nat.le_of_ble_eq_true rfl⟩ rfl rfl (Nat.le_of_ble_eq_true rfl) (by decide) (okc_1 hy) rfl dX12_compare_1 rfl ?_
  refine v_if_ne (pc := 4) (tgt := 9) K dX12_compare_4 (by decide) hF (fun c14 hF => ?_) (fun c14 hF => ?_)
  · refine v_aload_n (pc := 9) K dX12_compare_9 0 rfl ?_
    obtain ⟨r5, M6, hc4, hF⟩ := q_bE hF
    refine v_callV (pc := 10) (ci := 11) (As := []) (rest := []) (st' := [.int r5]) (r := some (.int r5)) (M1 := M6) K (kX12_see l K.2.2.2.2.2.2.1 hy hc4) (jg_V jl_X12_124 jw_i_X12_see jw_s_X12_see jw_n_X12 jw_c_X12_see) rfl rfl rfl jd_X12_see ⟨Nat.le_of_ble_eq_true rfl, Nat.le_of_ble_eq_true rfl⟩ rfl rfl (Nat.le_of_ble_eq_true rfl) (by decide) (okc_1 hy) rfl dX12_compare_10 rfl ?_
    refine v_istore_n (pc := 13) (lv' := [(1, .int r5), (0, .ref (ly_o y 1000))]) K dX12_compare_13 1 rfl (by decide) rfl ?_
    refine v_aload_n (pc := 14) K dX12_compare_14 1 rfl ?_
    refine gX12_next (pc := 15) K hy (by decide) jn_X12 (List.mem_cons_of_mem _ jl_X12_121) dX12_compare_15 ?_
    refine v_istore_n (pc := 18) (lv' := [(2, .int (q_i M6 1000 14)), (1, .int r5), (0, .ref (ly_o y 1000))]) K dX12_compare_18 2 rfl (by decide) rfl ?_
    refine v_iload_n (pc := 19) K dX12_compare_19 1 rfl ?_
    refine v_bipush (pc := 20) (v := 60) K dX12_compare_20 rfl ?_
    refine v_icmp_eq (pc := 22) (tgt := 44) K dX12_compare_22 (by decide) hF (fun c13 hF => ?_) (fun c13 hF => ?_)
    · refine v_sub [2, 1, 0] rfl ?_
      exact bX12_compare_44 l K hy hQ hF
    · refine v_iload_n (pc := 25) K dX12_compare_25 1 rfl ?_
      refine v_bipush (pc := 26) (v := 61) K dX12_compare_26 rfl ?_
      refine v_icmp_eq (pc := 28) (tgt := 44) K dX12_compare_28 (by decide) hF (fun c12 hF => ?_) (fun c12 hF => ?_)
      · refine v_sub [2, 1, 0] rfl ?_
        exact bX12_compare_44 l K hy hQ hF
      · refine v_iload_n (pc := 31) K dX12_compare_31 1 rfl ?_
        refine v_bipush (pc := 32) (v := 62) K dX12_compare_32 rfl ?_
        refine v_icmp_eq (pc := 34) (tgt := 44) K dX12_compare_34 (by decide) hF (fun c11 hF => ?_) (fun c11 hF => ?_)
        · refine v_sub [2, 1, 0] rfl ?_
          exact bX12_compare_44 l K hy hQ hF
        · refine v_aload_n (pc := 37) K dX12_compare_37 2 rfl ?_
          refine v_iconst (pc := 38) (v := 0) K dX12_compare_38 rfl ?_
          refine v_iload_n (pc := 39) K dX12_compare_39 0 rfl ?_
          obtain ⟨r8, M9, hc7, hF⟩ := q_bE hF
          refine v_callV (pc := 40) (ci := 11) (As := [.int (0 : Int32), .int (q_i M6 1000 14)]) (rest := []) (st' := [.int r8]) (r := some (.int r8)) (M1 := M9) K (kX12_fails l K.2.2.2.2.2.2.1 hy hc7) (jg_V jl_X12_141 jw_i_X12_fails jw_s_X12_fails jw_n_X12 jw_c_X12_fails) rfl rfl rfl jd_X12_fails ⟨Nat.le_of_ble_eq_true rfl, Nat.le_of_ble_eq_true rfl⟩ rfl rfl (Nat.le_of_ble_eq_true rfl) (by decide) (okc_1 hy) rfl dX12_compare_40 rfl ?_
          obtain ⟨hz10, hF⟩ := q_kE hF
          have hz := (Option.some.inj hF).symm
          subst hz
          exact v_zret (pc := 43) K hQ (q_zn hz10) dX12_compare_43
  · refine v_iconst (pc := 7) (v := 0) K dX12_compare_7 rfl ?_
    have hz := (Option.some.inj hF).symm
    subst hz
    exact v_zret (pc := 8) K hQ rfl dX12_compare_8
set_option maxRecDepth 100000 in
set_option maxHeartbeats 4000000 in
theorem kX12_compare (l : Launch) {y : Ly} (hJ : ly_J y) (hy : y.2.2.2.2 = 1) {M M1 : QM} {r : Int32} (hF : fX12_compare M  = some (r, M1)) : Met l yX12_compare wqX12_compare rmX12_compare (q_P y [.ref (ly_o y 1000)] M) (q_E y (some (.int r)) M1) 0 0 (ly_A y) :=
  q_met (by decide) rfl hJ rfl rfl rfl (fun x K hQ => bX12_compare_0 l K hy (z := (r, M1)) hQ  hF)
-- ===== X12_strength (I)I
theorem jd_X12_strength : yX12_strength.cls ≠ "java/lang/invoke/MethodHandle" ∧ yX12_strength.cls ≠ "java/lang/invoke/VarHandle" ∧ (parseMethodDescriptor yX12_strength.desc).map (fun d => d.parameters.length) = some 1 := by decide +kernel
abbrev wqX12_strength : List Cond := .code yX12_strength cX12_strength 1 (some .int) :: wsL_law
abbrev rmX12_strength : Room := { frames := 0, cells := 0, slots := 0, locals := 0 }
def fX12_strength (M : QM) (x0 : Int32) : Option (Int32 × QM) := if x0 ≠ (11 : Int32) then if x0 ≠ (10 : Int32) then if x0 ≠ (9 : Int32) then some ((0 : Int32), M) else some ((3 : Int32), M) else some ((2 : Int32), M) else some ((1 : Int32), M)
set_option maxRecDepth 100000 in
set_option maxHeartbeats 4000000 in
theorem bX12_strength_0 {x : Cx} {y : Ly} (l : Launch) (K : VK x l rmX12_strength y 1 cX12_strength RX12 wqX12_strength) (hy : y.2.2.2.2 = 1) {z : Int32 × QM} (hQ : VQ x y (some (.int z.1)) z.2 (some .int)) {M : QM} {x0 : Int32} (hF : fX12_strength M x0 = some z) : V x y 1 M 0 [(0, .int x0)] [] := by
  unfold fX12_strength at hF
  refine v_iload_n (pc := 0) K dX12_strength_0 0 rfl ?_
  refine v_bipush (pc := 1) (v := 11) K dX12_strength_1 rfl ?_
  refine v_icmp_ne (pc := 3) (tgt := 10) K dX12_strength_3 (by decide) hF (fun c3 hF => ?_) (fun c3 hF => ?_)
  · refine v_iload_n (pc := 10) K dX12_strength_10 0 rfl ?_
    refine v_bipush (pc := 11) (v := 10) K dX12_strength_11 rfl ?_
    refine v_icmp_ne (pc := 13) (tgt := 20) K dX12_strength_13 (by decide) hF (fun c2 hF => ?_) (fun c2 hF => ?_)
    · refine v_iload_n (pc := 20) K dX12_strength_20 0 rfl ?_
      refine v_bipush (pc := 21) (v := 9) K dX12_strength_21 rfl ?_
      refine v_icmp_ne (pc := 23) (tgt := 30) K dX12_strength_23 (by decide) hF (fun c1 hF => ?_) (fun c1 hF => ?_)
      · refine v_iconst (pc := 30) (v := 0) K dX12_strength_30 rfl ?_
        have hz := (Option.some.inj hF).symm
        subst hz
        exact v_iret (pc := 31) K hQ dX12_strength_31
      · refine v_iconst (pc := 26) (v := 3) K dX12_strength_26 rfl ?_
        refine v_goto (pc := 27) (tgt := 31) K dX12_strength_27 (by decide) ?_
        have hz := (Option.some.inj hF).symm
        subst hz
        exact v_iret (pc := 31) K hQ dX12_strength_31
    · refine v_iconst (pc := 16) (v := 2) K dX12_strength_16 rfl ?_
      refine v_goto (pc := 17) (tgt := 31) K dX12_strength_17 (by decide) ?_
      have hz := (Option.some.inj hF).symm
      subst hz
      exact v_iret (pc := 31) K hQ dX12_strength_31
  · refine v_iconst (pc := 6) (v := 1) K dX12_strength_6 rfl ?_
    refine v_goto (pc := 7) (tgt := 31) K dX12_strength_7 (by decide) ?_
    have hz := (Option.some.inj hF).symm
    subst hz
    exact v_iret (pc := 31) K hQ dX12_strength_31
set_option maxRecDepth 100000 in
set_option maxHeartbeats 4000000 in
theorem kX12_strength (l : Launch) {y : Ly} (hJ : ly_J y) (hy : y.2.2.2.2 = 1) {M M1 : QM} {r : Int32} {x0 : Int32} (hF : fX12_strength M x0 = some (r, M1)) : Met l yX12_strength wqX12_strength rmX12_strength (q_P y [.int x0] M) (q_E y (some (.int r)) M1) 0 0 (ly_A y) :=
  q_met (by decide) rfl hJ rfl rfl rfl (fun x K hQ => bX12_strength_0 l K hy (z := (r, M1)) hQ  hF)
-- ===== X12_settles (I)V
theorem jd_X12_settles : yX12_settles.cls = RX12 ∧ yX12_settles.cls ≠ "java/lang/invoke/MethodHandle" ∧ yX12_settles.cls ≠ "java/lang/invoke/VarHandle" ∧ (parseMethodDescriptor yX12_settles.desc).map (fun d => d.parameters.length) = some 1 := by decide +kernel
abbrev wqX12_settles : List Cond := .code yX12_settles cX12_settles 2 none :: wsL_law
abbrev rmX12_settles : Room := { frames := 1, cells := 0, slots := 0, locals := 22 }
def fX12_settles_b0 : Nat → QM → Int32 → Option QM
  | 0, _, _ => none
  | q + 1, M, x1 => if (q_i M 1000 21) ≤ (0 : Int32) then some M else (if q_in ((q_i M 1000 21) - (1 : Int32)) 400 then (q_b (fX12_strength M (q_a M 1000 20 ((q_i M 1000 21) - (1 : Int32)).toNatClampNeg)) fun r3 M4 => if r3 < x1 then some M4 else (q_t (p_i M4 1000 21 ((q_i M4 1000 21) - (1 : Int32))) fun M5 => (if q_in (q_i M5 1000 21) 400 then (q_bv (fX12_puts M5 (q_a M5 1000 20 (q_i M5 1000 21).toNatClampNeg) (0 : Int32)) fun M9 => (if q_in (q_i M9 1000 21) 400 then if (q_a M9 1000 20 (q_i M9 1000 21).toNatClampNeg) ≠ (9 : Int32) then (fX12_settles_b0 q M9 x1) else (q_t (p_i M9 1000 19 ((q_i M9 1000 19) - (1 : Int32))) fun M11 => (fX12_settles_b0 q M11 x1)) else none)) else none))) else none)
set_option maxRecDepth 100000 in
set_option maxHeartbeats 4000000 in
theorem bX12_settles_0 {x : Cx} {y : Ly} (l : Launch) (K : VK x l rmX12_settles y 2 cX12_settles RX12 wqX12_settles) (hy : y.2.2.2.2 = 1) {z : QM} (hQ : VQ x y none z none) : ∀ (q : Nat) {M : QM} {x1 : Int32},  fX12_settles_b0 q M x1 = some z → V x y 2 M 0 [(0, .ref (ly_o y 1000)), (1, .int x1)] [] := by
  intro q
  induction q with
  | zero =>
    intro M x1  hF
    rw [fX12_settles_b0] at hF
    cases hF
  | succ q ih =>
    intro M x1  hF
    rw [fX12_settles_b0] at hF
    refine v_aload_n (pc := 0) K dX12_settles_0 0 rfl ?_
    refine gX12_opened (pc := 1) K hy (by decide) jn_X12 (List.mem_cons_of_mem _ jl_X12_209) dX12_settles_1 ?_
    refine v_if_le (pc := 4) (tgt := 76) K dX12_settles_4 (by decide) hF (fun c14 hF => ?_) (fun c14 hF => ?_)
    · have hz := (Option.some.inj hF).symm
      subst hz
      exact v_vret (pc := 76) K hQ dX12_settles_76
    · refine v_aload_n (pc := 7) K dX12_settles_7 0 rfl ?_
      refine gX12_open (pc := 8) K hy (by decide) jn_X12 (List.mem_cons_of_mem _ jl_X12_44) dX12_settles_8 ?_
      refine v_aload_n (pc := 11) K dX12_settles_11 0 rfl ?_
      refine gX12_opened (pc := 12) K hy (by decide) jn_X12 (List.mem_cons_of_mem _ jl_X12_209) dX12_settles_12 ?_
      refine v_iconst (pc := 15) (v := 1) K dX12_settles_15 rfl ?_
      refine v_isub (pc := 16) K dX12_settles_16 ?_
      refine iX12_open (pc := 17) K hy (by decide) hF dX12_settles_17 (fun hi1 hF => ?_)
      obtain ⟨r3, M4, hc2, hF⟩ := q_bE hF
      refine v_callS (pc := 18) (As := [.int (q_a M 1000 20 ((q_i M 1000 21) - (1 : Int32)).toNatClampNeg)]) (rest := []) (st' := [.int r3]) (r := some (.int r3)) (M1 := M4) K (kX12_strength l K.2.2.2.2.2.2.1 hy hc2) (jg_S jl_X12_212 jw_t_X12_strength jw_n_X12 jw_c_X12_strength) rfl rfl rfl jd_X12_strength ⟨Nat.le_of_ble_eq_true rfl, Nat.le_of_ble_eq_true rfl⟩ rfl rfl (Nat.le_of_ble_eq_true rfl) dX12_settles_18 rfl ?_
      refine v_iload_n (pc := 21) K dX12_settles_21 1 rfl ?_
      refine v_icmp_lt (pc := 22) (tgt := 76) K dX12_settles_22 (by decide) hF (fun c13 hF => ?_) (fun c13 hF => ?_)
      · have hz := (Option.some.inj hF).symm
        subst hz
        exact v_vret (pc := 76) K hQ dX12_settles_76
      · refine v_aload_n (pc := 25) K dX12_settles_25 0 rfl ?_
        refine v_dup (pc := 26) K dX12_settles_26 rfl ?_
        refine gX12_opened (pc := 27) K hy (by decide) jn_X12 (List.mem_cons_of_mem _ jl_X12_209) dX12_settles_27 ?_
        refine v_iconst (pc := 30) (v := 1) K dX12_settles_30 rfl ?_
        refine v_isub (pc := 31) K dX12_settles_31 ?_
        refine pX12_opened (pc := 32) K hy (by decide) jn_X12 (List.mem_cons_of_mem _ jl_X12_209) dX12_settles_32 ?_
        refine v_nmM hF (fun M5 hF => ?_)
        refine v_aload_n (pc := 35) K dX12_settles_35 0 rfl ?_
        refine v_aload_n (pc := 36) K dX12_settles_36 0 rfl ?_
        refine gX12_open (pc := 37) K hy (by decide) jn_X12 (List.mem_cons_of_mem _ jl_X12_44) dX12_settles_37 ?_
        refine v_aload_n (pc := 40) K dX12_settles_40 0 rfl ?_
        refine gX12_opened (pc := 41) K hy (by decide) jn_X12 (List.mem_cons_of_mem _ jl_X12_209) dX12_settles_41 ?_
        refine iX12_open (pc := 44) K hy (by decide) hF dX12_settles_44 (fun hi6 hF => ?_)
        refine v_iconst (pc := 45) (v := 0) K dX12_settles_45 rfl ?_
        obtain ⟨M9, hc7, hF⟩ := q_bvE hF
        refine v_callV (pc := 46) (ci := 11) (As := [.int (q_a M5 1000 20 (q_i M5 1000 21).toNatClampNeg), .int (0 : Int32)]) (rest := []) (st' := []) (r := none) (M1 := M9) K (kX12_puts l K.2.2.2.2.2.2.1 hy hc7) (jg_V jl_X12_195 jw_i_X12_puts jw_s_X12_puts jw_n_X12 jw_c_X12_puts) rfl rfl rfl jd_X12_puts ⟨Nat.le_of_ble_eq_true rfl, Nat.le_of_ble_eq_true rfl⟩ rfl rfl (Nat.le_of_ble_eq_true rfl) (by decide) (okc_1 hy) rfl dX12_settles_46 rfl ?_
        refine v_aload_n (pc := 49) K dX12_settles_49 0 rfl ?_
        refine gX12_open (pc := 50) K hy (by decide) jn_X12 (List.mem_cons_of_mem _ jl_X12_44) dX12_settles_50 ?_
        refine v_aload_n (pc := 53) K dX12_settles_53 0 rfl ?_
        refine gX12_opened (pc := 54) K hy (by decide) jn_X12 (List.mem_cons_of_mem _ jl_X12_209) dX12_settles_54 ?_
        refine iX12_open (pc := 57) K hy (by decide) hF dX12_settles_57 (fun hi10 hF => ?_)
        refine v_bipush (pc := 58) (v := 9) K dX12_settles_58 rfl ?_
        refine v_icmp_ne (pc := 60) (tgt := 0) K dX12_settles_60 (by decide) hF (fun c12 hF => ?_) (fun c12 hF => ?_)
        · exact ih hF
        · refine v_aload_n (pc := 63) K dX12_settles_63 0 rfl ?_
          refine v_dup (pc := 64) K dX12_settles_64 rfl ?_
          refine gX12_deep (pc := 65) K hy (by decide) jn_X12 (List.mem_cons_of_mem _ jl_X12_216) dX12_settles_65 ?_
          refine v_iconst (pc := 68) (v := 1) K dX12_settles_68 rfl ?_
          refine v_isub (pc := 69) K dX12_settles_69 ?_
          refine pX12_deep (pc := 70) K hy (by decide) jn_X12 (List.mem_cons_of_mem _ jl_X12_216) dX12_settles_70 ?_
          refine v_nmM hF (fun M11 hF => ?_)
          refine v_goto (pc := 73) (tgt := 0) K dX12_settles_73 (by decide) ?_
          exact ih hF
def fX12_settles (M : QM) (x1 : Int32) : Option QM := fX12_settles_b0 q_F M x1
set_option maxRecDepth 100000 in
set_option maxHeartbeats 4000000 in
theorem kX12_settles (l : Launch) {y : Ly} (hJ : ly_J y) (hy : y.2.2.2.2 = 1) {M M1 : QM} {x1 : Int32} (hF : fX12_settles M x1 = some M1) : Met l yX12_settles wqX12_settles rmX12_settles (q_P y [.ref (ly_o y 1000), .int x1] M) (q_E y none M1) 0 0 (ly_A y) :=
  q_met (by decide) rfl hJ rfl rfl rfl (fun x K hQ => bX12_settles_0 l K hy (z := M1) hQ q_F  hF)
-- ===== X12_opens (I)Z
theorem jd_X12_opens : yX12_opens.cls = RX12 ∧ yX12_opens.cls ≠ "java/lang/invoke/MethodHandle" ∧ yX12_opens.cls ≠ "java/lang/invoke/VarHandle" ∧ (parseMethodDescriptor yX12_opens.desc).map (fun d => d.parameters.length) = some 1 := by decide +kernel
abbrev wqX12_opens : List Cond := .code yX12_opens cX12_opens 2 (some .boolean) :: wsL_law
abbrev rmX12_opens : Room := { frames := 1, cells := 0, slots := 0, locals := 22 }
def fX12_opens (M : QM) (x1 : Int32) : Option (Int32 × QM) := if (q_i M 1000 19) ≠ (10 : Int32) then (q_t (p_i M 1000 19 ((q_i M 1000 19) + (1 : Int32))) fun M1 => (if q_in (q_i M1 1000 21) 400 then (q_t (p_a M1 1000 20 (q_i M1 1000 21).toNatClampNeg x1) fun M3 => (q_t (p_i M3 1000 21 ((q_i M3 1000 21) + (1 : Int32))) fun M4 => some ((1 : Int32), M4))) else none)) else (q_b (fX12_fails M (2 : Int32) (q_i M 1000 14)) fun r6 M7 => if q_z r6 then some (r6, M7) else none)
set_option maxRecDepth 100000 in
set_option maxHeartbeats 4000000 in
theorem bX12_opens_0 {x : Cx} {y : Ly} (l : Launch) (K : VK x l rmX12_opens y 2 cX12_opens RX12 wqX12_opens) (hy : y.2.2.2.2 = 1) {z : Int32 × QM} (hQ : VQ x y (some (.int z.1)) z.2 (some .boolean)) {M : QM} {x1 : Int32} (hF : fX12_opens M x1 = some z) : V x y 2 M 0 [(0, .ref (ly_o y 1000)), (1, .int x1)] [] := by
  unfold fX12_opens at hF
  refine v_aload_n (pc := 0) K dX12_opens_0 0 rfl ?_
  refine gX12_deep (pc := 1) K hy (by decide) jn_X12 (List.mem_cons_of_mem _ jl_X12_216) dX12_opens_1 ?_
  refine v_bipush (pc := 4) (v := 10) K dX12_opens_4 rfl ?_
  refine v_icmp_ne (pc := 6) (tgt := 19) K dX12_opens_6 (by decide) hF (fun c9 hF => ?_) (fun c9 hF => ?_)
  · refine v_aload_n (pc := 19) K dX12_opens_19 0 rfl ?_
    refine v_dup (pc := 20) K dX12_opens_20 rfl ?_
    refine gX12_deep (pc := 21) K hy (by decide) jn_X12 (List.mem_cons_of_mem _ jl_X12_216) dX12_opens_21 ?_
    refine v_iconst (pc := 24) (v := 1) K dX12_opens_24 rfl ?_
    refine v_iadd (pc := 25) K dX12_opens_25 ?_
    refine pX12_deep (pc := 26) K hy (by decide) jn_X12 (List.mem_cons_of_mem _ jl_X12_216) dX12_opens_26 ?_
    refine v_nmM hF (fun M1 hF => ?_)
    refine v_aload_n (pc := 29) K dX12_opens_29 0 rfl ?_
    refine gX12_open (pc := 30) K hy (by decide) jn_X12 (List.mem_cons_of_mem _ jl_X12_44) dX12_opens_30 ?_
    refine v_aload_n (pc := 33) K dX12_opens_33 0 rfl ?_
    refine gX12_opened (pc := 34) K hy (by decide) jn_X12 (List.mem_cons_of_mem _ jl_X12_209) dX12_opens_34 ?_
    refine v_iload_n (pc := 37) K dX12_opens_37 1 rfl ?_
    refine uX12_open (pc := 38) K hy (by decide) hF dX12_opens_38 (fun hi2 hF => ?_)
    refine v_nmM hF (fun M3 hF => ?_)
    refine v_aload_n (pc := 39) K dX12_opens_39 0 rfl ?_
    refine v_dup (pc := 40) K dX12_opens_40 rfl ?_
    refine gX12_opened (pc := 41) K hy (by decide) jn_X12 (List.mem_cons_of_mem _ jl_X12_209) dX12_opens_41 ?_
    refine v_iconst (pc := 44) (v := 1) K dX12_opens_44 rfl ?_
    refine v_iadd (pc := 45) K dX12_opens_45 ?_
    refine pX12_opened (pc := 46) K hy (by decide) jn_X12 (List.mem_cons_of_mem _ jl_X12_209) dX12_opens_46 ?_
    refine v_nmM hF (fun M4 hF => ?_)
    refine v_iconst (pc := 49) (v := 1) K dX12_opens_49 rfl ?_
    have hz := (Option.some.inj hF).symm
    subst hz
    exact v_zret (pc := 50) K hQ rfl dX12_opens_50
  · refine v_aload_n (pc := 9) K dX12_opens_9 0 rfl ?_
    refine v_iconst (pc := 10) (v := 2) K dX12_opens_10 rfl ?_
    refine v_aload_n (pc := 11) K dX12_opens_11 0 rfl ?_
    refine gX12_next (pc := 12) K hy (by decide) jn_X12 (List.mem_cons_of_mem _ jl_X12_121) dX12_opens_12 ?_
    obtain ⟨r6, M7, hc5, hF⟩ := q_bE hF
    refine v_callV (pc := 15) (ci := 11) (As := [.int (2 : Int32), .int (q_i M 1000 14)]) (rest := []) (st' := [.int r6]) (r := some (.int r6)) (M1 := M7) K (kX12_fails l K.2.2.2.2.2.2.1 hy hc5) (jg_V jl_X12_141 jw_i_X12_fails jw_s_X12_fails jw_n_X12 jw_c_X12_fails) rfl rfl rfl jd_X12_fails ⟨Nat.le_of_ble_eq_true rfl, Nat.le_of_ble_eq_true rfl⟩ rfl rfl (Nat.le_of_ble_eq_true rfl) (by decide) (okc_1 hy) rfl dX12_opens_15 rfl ?_
    obtain ⟨hz8, hF⟩ := q_kE hF
    have hz := (Option.some.inj hF).symm
    subst hz
    exact v_zret (pc := 18) K hQ (q_zn hz8) dX12_opens_18
set_option maxRecDepth 100000 in
set_option maxHeartbeats 4000000 in
theorem kX12_opens (l : Launch) {y : Ly} (hJ : ly_J y) (hy : y.2.2.2.2 = 1) {M M1 : QM} {r : Int32} {x1 : Int32} (hF : fX12_opens M x1 = some (r, M1)) : Met l yX12_opens wqX12_opens rmX12_opens (q_P y [.ref (ly_o y 1000), .int x1] M) (q_E y (some (.int r)) M1) 0 0 (ly_A y) :=
  q_met (by decide) rfl hJ rfl rfl rfl (fun x K hQ => bX12_opens_0 l K hy (z := (r, M1)) hQ  hF)
-- ===== X12_fact ()Z
theorem jd_X12_fact : yX12_fact.cls = RX12 ∧ yX12_fact.cls ≠ "java/lang/invoke/MethodHandle" ∧ yX12_fact.cls ≠ "java/lang/invoke/VarHandle" ∧ (parseMethodDescriptor yX12_fact.desc).map (fun d => d.parameters.length) = some 0 := by decide +kernel
abbrev wqX12_fact : List Cond := .code yX12_fact cX12_fact 3 (some .boolean) :: wsL_law
abbrev rmX12_fact : Room := { frames := 6, cells := 0, slots := 0, locals := 133 }
def fX12_fact_b72 (k2 : QM → Int32 → Option (Int32 × QM)) (M : QM) (x1 : Int32) : Option (Int32 × QM) := (k2 M x1)
set_option maxRecDepth 100000 in
set_option maxHeartbeats 4000000 in
theorem bX12_fact_72 {x : Cx} {y : Ly} (l : Launch) (K : VK x l rmX12_fact y 3 cX12_fact RX12 wqX12_fact) (hy : y.2.2.2.2 = 1) {z : Int32 × QM} (hQ : VQ x y (some (.int z.1)) z.2 (some .boolean)) {k2 : QM → Int32 → Option (Int32 × QM)} (hk2 : ∀ {M : QM} {x1 : Int32}, k2 M x1 = some z → V x y 3 M 2 [(0, .ref (ly_o y 1000)), (1, .int x1)] []) {M : QM} {x1 : Int32} (hF : fX12_fact_b72 k2 M x1 = some z) : V x y 3 M 72 [(0, .ref (ly_o y 1000)), (1, .int x1)] [] := by
  unfold fX12_fact_b72 at hF
  refine v_goto (pc := 72) (tgt := 2) K dX12_fact_72 (by decide) ?_
  exact hk2 hF
def fX12_fact_b75 (M : QM) : Option (Int32 × QM) := (q_b (fX12_compare M) fun r23 M24 => if q_z r23 then some (r23, M24) else none)
set_option maxRecDepth 100000 in
set_option maxHeartbeats 4000000 in
theorem bX12_fact_75 {x : Cx} {y : Ly} (l : Launch) (K : VK x l rmX12_fact y 3 cX12_fact RX12 wqX12_fact) (hy : y.2.2.2.2 = 1) {z : Int32 × QM} (hQ : VQ x y (some (.int z.1)) z.2 (some .boolean)) {M : QM} (hF : fX12_fact_b75 M  = some z) : V x y 3 M 75 [(0, .ref (ly_o y 1000))] [] := by
  unfold fX12_fact_b75 at hF
  refine v_aload_n (pc := 75) K dX12_fact_75 0 rfl ?_
  obtain ⟨r23, M24, hc22, hF⟩ := q_bE hF
  refine v_callV (pc := 76) (ci := 11) (As := []) (rest := []) (st' := [.int r23]) (r := some (.int r23)) (M1 := M24) K (kX12_compare l K.2.2.2.2.2.2.1 hy hc22) (jg_V jl_X12_224 jw_i_X12_compare jw_s_X12_compare jw_n_X12 jw_c_X12_compare) rfl rfl rfl jd_X12_compare ⟨Nat.le_of_ble_eq_true rfl, Nat.le_of_ble_eq_true rfl⟩ rfl rfl (Nat.le_of_ble_eq_true rfl) (by decide) (okc_1 hy) rfl dX12_fact_76 rfl ?_
  obtain ⟨hz25, hF⟩ := q_kE hF
  have hz := (Option.some.inj hF).symm
  subst hz
  exact v_zret (pc := 79) K hQ (q_zn hz25) dX12_fact_79
def fX12_fact_b2 : Nat → QM → Int32 → Option (Int32 × QM)
  | 0, _, _ => none
  | q + 1, M, x1 => if x1 = (0 : Int32) then (fX12_fact_b75 M) else (q_b (fX12_see M) fun r2 M3 => (q_b (fX12_isWord M3 (7237492 : Int64)) fun r5 M6 => if r5 = (0 : Int32) then if r2 ≠ (91 : Int32) then (fX12_fact_b72 (fun M x1 => fX12_fact_b2 q M x1) M6 (0 : Int32)) else (q_b (fX12_opens M6 (91 : Int32)) fun r8 M9 => if r8 ≠ (0 : Int32) then (q_t (p_i M9 1000 14 ((q_i M9 1000 14) + (1 : Int32))) fun M10 => (fX12_fact_b72 (fun M x1 => fX12_fact_b2 q M x1) M10 (1 : Int32))) else some ((0 : Int32), M9)) else (q_b (fX12_opens M6 (9 : Int32)) fun r14 M15 => if r14 ≠ (0 : Int32) then (q_bv (fX12_passWord M15) fun M18 => (fX12_fact_b72 (fun M x1 => fX12_fact_b2 q M x1) M18 (1 : Int32))) else some ((0 : Int32), M15))))
set_option maxRecDepth 100000 in
set_option maxHeartbeats 4000000 in
theorem bX12_fact_2 {x : Cx} {y : Ly} (l : Launch) (K : VK x l rmX12_fact y 3 cX12_fact RX12 wqX12_fact) (hy : y.2.2.2.2 = 1) {z : Int32 × QM} (hQ : VQ x y (some (.int z.1)) z.2 (some .boolean)) : ∀ (q : Nat) {M : QM} {x1 : Int32},  fX12_fact_b2 q M x1 = some z → V x y 3 M 2 [(0, .ref (ly_o y 1000)), (1, .int x1)] [] := by
  intro q
  induction q with
  | zero =>
    intro M x1  hF
    rw [fX12_fact_b2] at hF
    cases hF
  | succ q ih =>
    intro M x1  hF
    rw [fX12_fact_b2] at hF
    refine v_iload_n (pc := 2) K dX12_fact_2 1 rfl ?_
    refine v_if_eq (pc := 3) (tgt := 75) K dX12_fact_3 (by decide) hF (fun c21 hF => ?_) (fun c21 hF => ?_)
    · refine v_sub [0] rfl ?_
      exact bX12_fact_75 l K hy hQ hF
    · refine v_iconst (pc := 6) (v := 0) K dX12_fact_6 rfl ?_
      refine v_istore_n (pc := 7) (lv' := [(1, .int (0 : Int32)), (0, .ref (ly_o y 1000))]) K dX12_fact_7 1 rfl (by decide) rfl ?_
      refine v_aload_n (pc := 8) K dX12_fact_8 1 rfl ?_
      obtain ⟨r2, M3, hc1, hF⟩ := q_bE hF
      refine v_callV (pc := 9) (ci := 11) (As := []) (rest := []) (st' := [.int r2]) (r := some (.int r2)) (M1 := M3) K (kX12_see l K.2.2.2.2.2.2.1 hy hc1) (jg_V jl_X12_124 jw_i_X12_see jw_s_X12_see jw_n_X12 jw_c_X12_see) rfl rfl rfl jd_X12_see ⟨Nat.le_of_ble_eq_true rfl, Nat.le_of_ble_eq_true rfl⟩ rfl rfl (Nat.le_of_ble_eq_true rfl) (by decide) (okc_1 hy) rfl dX12_fact_9 rfl ?_
      refine v_istore_n (pc := 12) (lv' := [(2, .int r2), (1, .int (0 : Int32)), (0, .ref (ly_o y 1000))]) K dX12_fact_12 2 rfl (by decide) rfl ?_
      refine v_aload_n (pc := 13) K dX12_fact_13 2 rfl ?_
      refine v_ldc2 (pc := 14) (v := 7237492) K dX12_fact_14 (List.mem_cons_of_mem _ jl_X12_219) ?_
      obtain ⟨r5, M6, hc4, hF⟩ := q_bE hF
      refine v_callV (pc := 17) (ci := 11) (As := [.long (7237492 : Int64)]) (rest := []) (st' := [.int r5]) (r := some (.int r5)) (M1 := M6) K (kX12_isWord l K.2.2.2.2.2.2.1 hy hc4) (jg_V jl_X12_131 jw_i_X12_isWord jw_s_X12_isWord jw_n_X12 jw_c_X12_isWord) rfl rfl rfl jd_X12_isWord ⟨Nat.le_of_ble_eq_true rfl, Nat.le_of_ble_eq_true rfl⟩ rfl rfl (Nat.le_of_ble_eq_true rfl) (by decide) (okc_1 hy) rfl dX12_fact_17 rfl ?_
      refine v_if_eq (pc := 20) (tgt := 43) K dX12_fact_20 (by decide) hF (fun c20 hF => ?_) (fun c20 hF => ?_)
      · refine v_iload_n (pc := 43) K dX12_fact_43 0 rfl ?_
        refine v_bipush (pc := 44) (v := 91) K dX12_fact_44 rfl ?_
        refine v_icmp_ne (pc := 46) (tgt := 72) K dX12_fact_46 (by decide) hF (fun c12 hF => ?_) (fun c12 hF => ?_)
        · refine v_sub [2, 1] rfl ?_
          exact bX12_fact_72 l K hy hQ ih hF
        · refine v_aload_n (pc := 49) K dX12_fact_49 2 rfl ?_
          refine v_bipush (pc := 50) (v := 91) K dX12_fact_50 rfl ?_
          obtain ⟨r8, M9, hc7, hF⟩ := q_bE hF
          refine v_callV (pc := 52) (ci := 11) (As := [.int (91 : Int32)]) (rest := []) (st' := [.int r8]) (r := some (.int r8)) (M1 := M9) K (kX12_opens l K.2.2.2.2.2.2.1 hy hc7) (jg_V jl_X12_221 jw_i_X12_opens jw_s_X12_opens jw_n_X12 jw_c_X12_opens) rfl rfl rfl jd_X12_opens ⟨Nat.le_of_ble_eq_true rfl, Nat.le_of_ble_eq_true rfl⟩ rfl rfl (Nat.le_of_ble_eq_true rfl) (by decide) (okc_1 hy) rfl dX12_fact_52 rfl ?_
          refine v_if_ne (pc := 55) (tgt := 60) K dX12_fact_55 (by decide) hF (fun c11 hF => ?_) (fun c11 hF => ?_)
          · refine v_aload_n (pc := 60) K dX12_fact_60 2 rfl ?_
            refine v_dup (pc := 61) K dX12_fact_61 rfl ?_
            refine gX12_next (pc := 62) K hy (by decide) jn_X12 (List.mem_cons_of_mem _ jl_X12_121) dX12_fact_62 ?_
            refine v_iconst (pc := 65) (v := 1) K dX12_fact_65 rfl ?_
            refine v_iadd (pc := 66) K dX12_fact_66 ?_
            refine pX12_next (pc := 67) K hy (by decide) jn_X12 (List.mem_cons_of_mem _ jl_X12_121) dX12_fact_67 ?_
            refine v_nmM hF (fun M10 hF => ?_)
            refine v_iconst (pc := 70) (v := 1) K dX12_fact_70 rfl ?_
            refine v_istore_n (pc := 71) (lv' := [(1, .int (1 : Int32)), (2, .int r2), (0, .ref (ly_o y 1000))]) K dX12_fact_71 1 rfl (by decide) rfl ?_
            refine v_sub [2, 0] rfl ?_
            exact bX12_fact_72 l K hy hQ ih hF
          · refine v_iconst (pc := 58) (v := 0) K dX12_fact_58 rfl ?_
            have hz := (Option.some.inj hF).symm
            subst hz
            exact v_zret (pc := 59) K hQ rfl dX12_fact_59
      · refine v_aload_n (pc := 23) K dX12_fact_23 2 rfl ?_
        refine v_bipush (pc := 24) (v := 9) K dX12_fact_24 rfl ?_
        obtain ⟨r14, M15, hc13, hF⟩ := q_bE hF
        refine v_callV (pc := 26) (ci := 11) (As := [.int (9 : Int32)]) (rest := []) (st' := [.int r14]) (r := some (.int r14)) (M1 := M15) K (kX12_opens l K.2.2.2.2.2.2.1 hy hc13) (jg_V jl_X12_221 jw_i_X12_opens jw_s_X12_opens jw_n_X12 jw_c_X12_opens) rfl rfl rfl jd_X12_opens ⟨Nat.le_of_ble_eq_true rfl, Nat.le_of_ble_eq_true rfl⟩ rfl rfl (Nat.le_of_ble_eq_true rfl) (by decide) (okc_1 hy) rfl dX12_fact_26 rfl ?_
        refine v_if_ne (pc := 29) (tgt := 34) K dX12_fact_29 (by decide) hF (fun c19 hF => ?_) (fun c19 hF => ?_)
        · refine v_aload_n (pc := 34) K dX12_fact_34 2 rfl ?_
          obtain ⟨M18, hc16, hF⟩ := q_bvE hF
          refine v_callV (pc := 35) (ci := 11) (As := []) (rest := []) (st' := []) (r := none) (M1 := M18) K (kX12_passWord l K.2.2.2.2.2.2.1 hy hc16) (jg_V jl_X12_135 jw_i_X12_passWord jw_s_X12_passWord jw_n_X12 jw_c_X12_passWord) rfl rfl rfl jd_X12_passWord ⟨Nat.le_of_ble_eq_true rfl, Nat.le_of_ble_eq_true rfl⟩ rfl rfl (Nat.le_of_ble_eq_true rfl) (by decide) (okc_1 hy) rfl dX12_fact_35 rfl ?_
          refine v_iconst (pc := 38) (v := 1) K dX12_fact_38 rfl ?_
          refine v_istore_n (pc := 39) (lv' := [(1, .int (1 : Int32)), (2, .int r2), (0, .ref (ly_o y 1000))]) K dX12_fact_39 1 rfl (by decide) rfl ?_
          refine v_goto (pc := 40) (tgt := 72) K dX12_fact_40 (by decide) ?_
          refine v_sub [2, 0] rfl ?_
          exact bX12_fact_72 l K hy hQ ih hF
        · refine v_iconst (pc := 32) (v := 0) K dX12_fact_32 rfl ?_
          have hz := (Option.some.inj hF).symm
          subst hz
          exact v_zret (pc := 33) K hQ rfl dX12_fact_33
def fX12_fact (M : QM) : Option (Int32 × QM) := (fX12_fact_b2 q_F M (1 : Int32))
set_option maxRecDepth 100000 in
set_option maxHeartbeats 4000000 in
theorem bX12_fact_0 {x : Cx} {y : Ly} (l : Launch) (K : VK x l rmX12_fact y 3 cX12_fact RX12 wqX12_fact) (hy : y.2.2.2.2 = 1) {z : Int32 × QM} (hQ : VQ x y (some (.int z.1)) z.2 (some .boolean)) {M : QM} (hF : fX12_fact M  = some z) : V x y 3 M 0 [(0, .ref (ly_o y 1000))] [] := by
  unfold fX12_fact at hF
  refine v_iconst (pc := 0) (v := 1) K dX12_fact_0 rfl ?_
  refine v_istore_n (pc := 1) (lv' := [(1, .int (1 : Int32)), (0, .ref (ly_o y 1000))]) K dX12_fact_1 1 rfl (by decide) rfl ?_
  refine v_sub [1, 0] rfl ?_
  exact bX12_fact_2 l K hy hQ q_F hF
set_option maxRecDepth 100000 in
set_option maxHeartbeats 4000000 in
theorem kX12_fact (l : Launch) {y : Ly} (hJ : ly_J y) (hy : y.2.2.2.2 = 1) {M M1 : QM} {r : Int32} (hF : fX12_fact M  = some (r, M1)) : Met l yX12_fact wqX12_fact rmX12_fact (q_P y [.ref (ly_o y 1000)] M) (q_E y (some (.int r)) M1) 0 0 (ly_A y) :=
  q_met (by decide) rfl hJ rfl rfl rfl (fun x K hQ => bX12_fact_0 l K hy (z := (r, M1)) hQ  hF)
-- ===== X12_isInside ()Z
theorem jd_X12_isInside : yX12_isInside.cls = RX12 ∧ yX12_isInside.cls ≠ "java/lang/invoke/MethodHandle" ∧ yX12_isInside.cls ≠ "java/lang/invoke/VarHandle" ∧ (parseMethodDescriptor yX12_isInside.desc).map (fun d => d.parameters.length) = some 0 := by decide +kernel
abbrev wqX12_isInside : List Cond := .code yX12_isInside cX12_isInside 2 (some .boolean) :: wsL_law
abbrev rmX12_isInside : Room := { frames := 0, cells := 0, slots := 0, locals := 0 }
def fX12_isInside_b2 : Nat → QM → Int32 → Option (Int32 × QM)
  | 0, _, _ => none
  | q + 1, M, x1 => if (q_i M 1000 21) ≤ x1 then some ((0 : Int32), M) else (if q_in x1 400 then if (q_a M 1000 20 x1.toNatClampNeg) ≠ (91 : Int32) then (fX12_isInside_b2 q M (x1 + (1 : Int32))) else some ((1 : Int32), M) else none)
set_option maxRecDepth 100000 in
set_option maxHeartbeats 4000000 in
theorem bX12_isInside_2 {x : Cx} {y : Ly} (l : Launch) (K : VK x l rmX12_isInside y 2 cX12_isInside RX12 wqX12_isInside) (hy : y.2.2.2.2 = 1) {z : Int32 × QM} (hQ : VQ x y (some (.int z.1)) z.2 (some .boolean)) : ∀ (q : Nat) {M : QM} {x1 : Int32},  fX12_isInside_b2 q M x1 = some z → V x y 2 M 2 [(0, .ref (ly_o y 1000)), (1, .int x1)] [] := by
  intro q
  induction q with
  | zero =>
    intro M x1  hF
    rw [fX12_isInside_b2] at hF
    cases hF
  | succ q ih =>
    intro M x1  hF
    rw [fX12_isInside_b2] at hF
    refine v_iload_n (pc := 2) K dX12_isInside_2 1 rfl ?_
    refine v_aload_n (pc := 3) K dX12_isInside_3 0 rfl ?_
    refine gX12_opened (pc := 4) K hy (by decide) jn_X12 (List.mem_cons_of_mem _ jl_X12_209) dX12_isInside_4 ?_
    refine v_icmp_ge (pc := 7) (tgt := 29) K dX12_isInside_7 (by decide) hF (fun c3 hF => ?_) (fun c3 hF => ?_)
    · refine v_iconst (pc := 29) (v := 0) K dX12_isInside_29 rfl ?_
      have hz := (Option.some.inj hF).symm
      subst hz
      exact v_zret (pc := 30) K hQ rfl dX12_isInside_30
    · refine v_aload_n (pc := 10) K dX12_isInside_10 0 rfl ?_
      refine gX12_open (pc := 11) K hy (by decide) jn_X12 (List.mem_cons_of_mem _ jl_X12_44) dX12_isInside_11 ?_
      refine v_iload_n (pc := 14) K dX12_isInside_14 1 rfl ?_
      refine iX12_open (pc := 15) K hy (by decide) hF dX12_isInside_15 (fun hi1 hF => ?_)
      refine v_bipush (pc := 16) (v := 91) K dX12_isInside_16 rfl ?_
      refine v_icmp_ne (pc := 18) (tgt := 23) K dX12_isInside_18 (by decide) hF (fun c2 hF => ?_) (fun c2 hF => ?_)
      · refine v_iinc (pc := 23) (v1 := x1 + (1 : Int32)) (lv' := [(1, .int (x1 + (1 : Int32))), (0, .ref (ly_o y 1000))]) K dX12_isInside_23 1 rfl rfl (by decide) rfl ?_
        refine v_goto (pc := 26) (tgt := 2) K dX12_isInside_26 (by decide) ?_
        refine v_sub [1, 0] rfl ?_
        exact ih hF
      · refine v_iconst (pc := 21) (v := 1) K dX12_isInside_21 rfl ?_
        have hz := (Option.some.inj hF).symm
        subst hz
        exact v_zret (pc := 22) K hQ rfl dX12_isInside_22
def fX12_isInside (M : QM) : Option (Int32 × QM) := (fX12_isInside_b2 q_F M (0 : Int32))
set_option maxRecDepth 100000 in
set_option maxHeartbeats 4000000 in
theorem bX12_isInside_0 {x : Cx} {y : Ly} (l : Launch) (K : VK x l rmX12_isInside y 2 cX12_isInside RX12 wqX12_isInside) (hy : y.2.2.2.2 = 1) {z : Int32 × QM} (hQ : VQ x y (some (.int z.1)) z.2 (some .boolean)) {M : QM} (hF : fX12_isInside M  = some z) : V x y 2 M 0 [(0, .ref (ly_o y 1000))] [] := by
  unfold fX12_isInside at hF
  refine v_iconst (pc := 0) (v := 0) K dX12_isInside_0 rfl ?_
  refine v_istore_n (pc := 1) (lv' := [(1, .int (0 : Int32)), (0, .ref (ly_o y 1000))]) K dX12_isInside_1 1 rfl (by decide) rfl ?_
  refine v_sub [1, 0] rfl ?_
  exact bX12_isInside_2 l K hy hQ q_F hF
set_option maxRecDepth 100000 in
set_option maxHeartbeats 4000000 in
theorem kX12_isInside (l : Launch) {y : Ly} (hJ : ly_J y) (hy : y.2.2.2.2 = 1) {M M1 : QM} {r : Int32} (hF : fX12_isInside M  = some (r, M1)) : Met l yX12_isInside wqX12_isInside rmX12_isInside (q_P y [.ref (ly_o y 1000)] M) (q_E y (some (.int r)) M1) 0 0 (ly_A y) :=
  q_met (by decide) rfl hJ rfl rfl rfl (fun x K hQ => bX12_isInside_0 l K hy (z := (r, M1)) hQ  hF)
-- ===== X12_closes ()V
theorem jd_X12_closes : yX12_closes.cls = RX12 ∧ yX12_closes.cls ≠ "java/lang/invoke/MethodHandle" ∧ yX12_closes.cls ≠ "java/lang/invoke/VarHandle" ∧ (parseMethodDescriptor yX12_closes.desc).map (fun d => d.parameters.length) = some 0 := by decide +kernel
abbrev wqX12_closes : List Cond := .code yX12_closes cX12_closes 1 none :: wsL_law
abbrev rmX12_closes : Room := { frames := 2, cells := 0, slots := 0, locals := 43 }
def fX12_closes_b5 : Nat → QM → Option QM
  | 0, _ => none
  | q + 1, M => (q_b (fX12_see M) fun r5 M6 => if r5 ≠ (93 : Int32) then some M6 else (q_b (fX12_isInside M6) fun r8 M9 => if r8 = (0 : Int32) then some M9 else (q_bv (fX12_settles M9 (1 : Int32)) fun M12 => (q_t (p_i M12 1000 21 ((q_i M12 1000 21) - (1 : Int32))) fun M13 => (q_t (p_i M13 1000 19 ((q_i M13 1000 19) - (1 : Int32))) fun M14 => (q_t (p_i M14 1000 14 ((q_i M14 1000 14) + (1 : Int32))) fun M15 => (q_bv (fX12_settles M15 (3 : Int32)) fun M18 => (fX12_closes_b5 q M18))))))))
set_option maxRecDepth 100000 in
set_option maxHeartbeats 4000000 in
theorem bX12_closes_5 {x : Cx} {y : Ly} (l : Launch) (K : VK x l rmX12_closes y 1 cX12_closes RX12 wqX12_closes) (hy : y.2.2.2.2 = 1) {z : QM} (hQ : VQ x y none z none) : ∀ (q : Nat) {M : QM} ,  fX12_closes_b5 q M  = some z → V x y 1 M 5 [(0, .ref (ly_o y 1000))] [] := by
  intro q
  induction q with
  | zero =>
    intro M   hF
    rw [fX12_closes_b5] at hF
    cases hF
  | succ q ih =>
    intro M   hF
    rw [fX12_closes_b5] at hF
    refine v_aload_n (pc := 5) K dX12_closes_5 0 rfl ?_
    obtain ⟨r5, M6, hc4, hF⟩ := q_bE hF
    refine v_callV (pc := 6) (ci := 11) (As := []) (rest := []) (st' := [.int r5]) (r := some (.int r5)) (M1 := M6) K (kX12_see l K.2.2.2.2.2.2.1 hy hc4) (jg_V jl_X12_124 jw_i_X12_see jw_s_X12_see jw_n_X12 jw_c_X12_see) rfl rfl rfl jd_X12_see ⟨Nat.le_of_ble_eq_true rfl, Nat.le_of_ble_eq_true rfl⟩ rfl rfl (Nat.le_of_ble_eq_true rfl) (by decide) (okc_1 hy) rfl dX12_closes_6 rfl ?_
    refine v_bipush (pc := 9) (v := 93) K dX12_closes_9 rfl ?_
    refine v_icmp_ne (pc := 11) (tgt := 64) K dX12_closes_11 (by decide) hF (fun c20 hF => ?_) (fun c20 hF => ?_)
    · have hz := (Option.some.inj hF).symm
      subst hz
      exact v_vret (pc := 64) K hQ dX12_closes_64
    · refine v_aload_n (pc := 14) K dX12_closes_14 0 rfl ?_
      obtain ⟨r8, M9, hc7, hF⟩ := q_bE hF
      refine v_callV (pc := 15) (ci := 11) (As := []) (rest := []) (st' := [.int r8]) (r := some (.int r8)) (M1 := M9) K (kX12_isInside l K.2.2.2.2.2.2.1 hy hc7) (jg_V jl_X12_230 jw_i_X12_isInside jw_s_X12_isInside jw_n_X12 jw_c_X12_isInside) rfl rfl rfl jd_X12_isInside ⟨Nat.le_of_ble_eq_true rfl, Nat.le_of_ble_eq_true rfl⟩ rfl rfl (Nat.le_of_ble_eq_true rfl) (by decide) (okc_1 hy) rfl dX12_closes_15 rfl ?_
      refine v_if_eq (pc := 18) (tgt := 64) K dX12_closes_18 (by decide) hF (fun c19 hF => ?_) (fun c19 hF => ?_)
      · have hz := (Option.some.inj hF).symm
        subst hz
        exact v_vret (pc := 64) K hQ dX12_closes_64
      · refine v_aload_n (pc := 21) K dX12_closes_21 0 rfl ?_
        refine v_iconst (pc := 22) (v := 1) K dX12_closes_22 rfl ?_
        obtain ⟨M12, hc10, hF⟩ := q_bvE hF
        refine v_callV (pc := 23) (ci := 11) (As := [.int (1 : Int32)]) (rest := []) (st' := []) (r := none) (M1 := M12) K (kX12_settles l K.2.2.2.2.2.2.1 hy hc10) (jg_V jl_X12_227 jw_i_X12_settles jw_s_X12_settles jw_n_X12 jw_c_X12_settles) rfl rfl rfl jd_X12_settles ⟨Nat.le_of_ble_eq_true rfl, Nat.le_of_ble_eq_true rfl⟩ rfl rfl (Nat.le_of_ble_eq_true rfl) (by decide) (okc_1 hy) rfl dX12_closes_23 rfl ?_
        refine v_aload_n (pc := 26) K dX12_closes_26 0 rfl ?_
        refine v_dup (pc := 27) K dX12_closes_27 rfl ?_
        refine gX12_opened (pc := 28) K hy (by decide) jn_X12 (List.mem_cons_of_mem _ jl_X12_209) dX12_closes_28 ?_
        refine v_iconst (pc := 31) (v := 1) K dX12_closes_31 rfl ?_
        refine v_isub (pc := 32) K dX12_closes_32 ?_
        refine pX12_opened (pc := 33) K hy (by decide) jn_X12 (List.mem_cons_of_mem _ jl_X12_209) dX12_closes_33 ?_
        refine v_nmM hF (fun M13 hF => ?_)
        refine v_aload_n (pc := 36) K dX12_closes_36 0 rfl ?_
        refine v_dup (pc := 37) K dX12_closes_37 rfl ?_
        refine gX12_deep (pc := 38) K hy (by decide) jn_X12 (List.mem_cons_of_mem _ jl_X12_216) dX12_closes_38 ?_
        refine v_iconst (pc := 41) (v := 1) K dX12_closes_41 rfl ?_
        refine v_isub (pc := 42) K dX12_closes_42 ?_
        refine pX12_deep (pc := 43) K hy (by decide) jn_X12 (List.mem_cons_of_mem _ jl_X12_216) dX12_closes_43 ?_
        refine v_nmM hF (fun M14 hF => ?_)
        refine v_aload_n (pc := 46) K dX12_closes_46 0 rfl ?_
        refine v_dup (pc := 47) K dX12_closes_47 rfl ?_
        refine gX12_next (pc := 48) K hy (by decide) jn_X12 (List.mem_cons_of_mem _ jl_X12_121) dX12_closes_48 ?_
        refine v_iconst (pc := 51) (v := 1) K dX12_closes_51 rfl ?_
        refine v_iadd (pc := 52) K dX12_closes_52 ?_
        refine pX12_next (pc := 53) K hy (by decide) jn_X12 (List.mem_cons_of_mem _ jl_X12_121) dX12_closes_53 ?_
        refine v_nmM hF (fun M15 hF => ?_)
        refine v_aload_n (pc := 56) K dX12_closes_56 0 rfl ?_
        refine v_iconst (pc := 57) (v := 3) K dX12_closes_57 rfl ?_
        obtain ⟨M18, hc16, hF⟩ := q_bvE hF
        refine v_callV (pc := 58) (ci := 11) (As := [.int (3 : Int32)]) (rest := []) (st' := []) (r := none) (M1 := M18) K (kX12_settles l K.2.2.2.2.2.2.1 hy hc16) (jg_V jl_X12_227 jw_i_X12_settles jw_s_X12_settles jw_n_X12 jw_c_X12_settles) rfl rfl rfl jd_X12_settles ⟨Nat.le_of_ble_eq_true rfl, Nat.le_of_ble_eq_true rfl⟩ rfl rfl (Nat.le_of_ble_eq_true rfl) (by decide) (okc_1 hy) rfl dX12_closes_58 rfl ?_
        refine v_goto (pc := 61) (tgt := 5) K dX12_closes_61 (by decide) ?_
        exact ih hF
def fX12_closes (M : QM) : Option QM := (q_bv (fX12_settles M (3 : Int32)) fun M3 => (fX12_closes_b5 q_F M3))
set_option maxRecDepth 100000 in
set_option maxHeartbeats 4000000 in
theorem bX12_closes_0 {x : Cx} {y : Ly} (l : Launch) (K : VK x l rmX12_closes y 1 cX12_closes RX12 wqX12_closes) (hy : y.2.2.2.2 = 1) {z : QM} (hQ : VQ x y none z none) {M : QM} (hF : fX12_closes M  = some z) : V x y 1 M 0 [(0, .ref (ly_o y 1000))] [] := by
  unfold fX12_closes at hF
  refine v_aload_n (pc := 0) K dX12_closes_0 0 rfl ?_
  refine v_iconst (pc := 1) (v := 3) K dX12_closes_1 rfl ?_
  obtain ⟨M3, hc1, hF⟩ := q_bvE hF
  refine v_callV (pc := 2) (ci := 11) (As := [.int (3 : Int32)]) (rest := []) (st' := []) (r := none) (M1 := M3) K (kX12_settles l K.2.2.2.2.2.2.1 hy hc1) (jg_V jl_X12_227 jw_i_X12_settles jw_s_X12_settles jw_n_X12 jw_c_X12_settles) rfl rfl rfl jd_X12_settles ⟨Nat.le_of_ble_eq_true rfl, Nat.le_of_ble_eq_true rfl⟩ rfl rfl (Nat.le_of_ble_eq_true rfl) (by decide) (okc_1 hy) rfl dX12_closes_2 rfl ?_
  exact bX12_closes_5 l K hy hQ q_F hF
set_option maxRecDepth 100000 in
set_option maxHeartbeats 4000000 in
theorem kX12_closes (l : Launch) {y : Ly} (hJ : ly_J y) (hy : y.2.2.2.2 = 1) {M M1 : QM} (hF : fX12_closes M  = some M1) : Met l yX12_closes wqX12_closes rmX12_closes (q_P y [.ref (ly_o y 1000)] M) (q_E y none M1) 0 0 (ly_A y) :=
  q_met (by decide) rfl hJ rfl rfl rfl (fun x K hQ => bX12_closes_0 l K hy (z := M1) hQ  hF)
-- ===== X12_test ()Z
theorem jd_X12_test : yX12_test.cls = RX12 ∧ yX12_test.cls ≠ "java/lang/invoke/MethodHandle" ∧ yX12_test.cls ≠ "java/lang/invoke/VarHandle" ∧ (parseMethodDescriptor yX12_test.desc).map (fun d => d.parameters.length) = some 0 := by decide +kernel
abbrev wqX12_test : List Cond := .code yX12_test cX12_test 3 (some .boolean) :: wsL_law
abbrev rmX12_test : Room := { frames := 7, cells := 0, slots := 0, locals := 155 }
def fX12_test_b76 (k12 : QM → Int32 → Option (Int32 × QM)) (M : QM) (x1 : Int32) (s0 : Int32) : Option (Int32 × QM) := (q_bv (fX12_passWord M) fun M26 => (q_b (fX12_strength M26 s0) fun r28 M29 => (q_bv (fX12_settles M29 r28) fun M32 => (if q_in (q_i M32 1000 21) 400 then (q_t (p_a M32 1000 20 (q_i M32 1000 21).toNatClampNeg s0) fun M34 => (q_t (p_i M34 1000 21 ((q_i M34 1000 21) + (1 : Int32))) fun M35 => (k12 M35 x1))) else none))))
set_option maxRecDepth 100000 in
set_option maxHeartbeats 4000000 in
theorem bX12_test_76 {x : Cx} {y : Ly} (l : Launch) (K : VK x l rmX12_test y 3 cX12_test RX12 wqX12_test) (hy : y.2.2.2.2 = 1) {z : Int32 × QM} (hQ : VQ x y (some (.int z.1)) z.2 (some .boolean)) {k12 : QM → Int32 → Option (Int32 × QM)} (hk12 : ∀ {M : QM} {x1 : Int32}, k12 M x1 = some z → V x y 3 M 12 [(0, .ref (ly_o y 1000)), (1, .int x1)] []) {M : QM} {x1 : Int32} {s0 : Int32} (hF : fX12_test_b76 k12 M x1 s0 = some z) : V x y 3 M 76 [(0, .ref (ly_o y 1000)), (1, .int x1)] [.int s0] := by
  unfold fX12_test_b76 at hF
  refine v_istore_n (pc := 76) (lv' := [(2, .int s0), (0, .ref (ly_o y 1000)), (1, .int x1)]) K dX12_test_76 2 rfl (by decide) rfl ?_
  refine v_aload_n (pc := 77) K dX12_test_77 1 rfl ?_
  obtain ⟨M26, hc24, hF⟩ := q_bvE hF
  refine v_callV (pc := 78) (ci := 11) (As := []) (rest := []) (st' := []) (r := none) (M1 := M26) K (kX12_passWord l K.2.2.2.2.2.2.1 hy hc24) (jg_V jl_X12_135 jw_i_X12_passWord jw_s_X12_passWord jw_n_X12 jw_c_X12_passWord) rfl rfl rfl jd_X12_passWord ⟨Nat.le_of_ble_eq_true rfl, Nat.le_of_ble_eq_true rfl⟩ rfl rfl (Nat.le_of_ble_eq_true rfl) (by decide) (okc_1 hy) rfl dX12_test_78 rfl ?_
  refine v_aload_n (pc := 81) K dX12_test_81 1 rfl ?_
  refine v_iload_n (pc := 82) K dX12_test_82 0 rfl ?_
  obtain ⟨r28, M29, hc27, hF⟩ := q_bE hF
  refine v_callS (pc := 83) (As := [.int s0]) (rest := [.ref (ly_o y 1000)]) (st' := [.int r28, .ref (ly_o y 1000)]) (r := some (.int r28)) (M1 := M29) K (kX12_strength l K.2.2.2.2.2.2.1 hy hc27) (jg_S jl_X12_212 jw_t_X12_strength jw_n_X12 jw_c_X12_strength) rfl rfl rfl jd_X12_strength ⟨Nat.le_of_ble_eq_true rfl, Nat.le_of_ble_eq_true rfl⟩ rfl rfl (Nat.le_of_ble_eq_true rfl) dX12_test_83 rfl ?_
  obtain ⟨M32, hc30, hF⟩ := q_bvE hF
  refine v_callV (pc := 86) (ci := 11) (As := [.int r28]) (rest := []) (st' := []) (r := none) (M1 := M32) K (kX12_settles l K.2.2.2.2.2.2.1 hy hc30) (jg_V jl_X12_227 jw_i_X12_settles jw_s_X12_settles jw_n_X12 jw_c_X12_settles) rfl rfl rfl jd_X12_settles ⟨Nat.le_of_ble_eq_true rfl, Nat.le_of_ble_eq_true rfl⟩ rfl rfl (Nat.le_of_ble_eq_true rfl) (by decide) (okc_1 hy) rfl dX12_test_86 rfl ?_
  refine v_aload_n (pc := 89) K dX12_test_89 1 rfl ?_
  refine gX12_open (pc := 90) K hy (by decide) jn_X12 (List.mem_cons_of_mem _ jl_X12_44) dX12_test_90 ?_
  refine v_aload_n (pc := 93) K dX12_test_93 1 rfl ?_
  refine gX12_opened (pc := 94) K hy (by decide) jn_X12 (List.mem_cons_of_mem _ jl_X12_209) dX12_test_94 ?_
  refine v_iload_n (pc := 97) K dX12_test_97 0 rfl ?_
  refine uX12_open (pc := 98) K hy (by decide) hF dX12_test_98 (fun hi33 hF => ?_)
  refine v_nmM hF (fun M34 hF => ?_)
  refine v_aload_n (pc := 99) K dX12_test_99 1 rfl ?_
  refine v_dup (pc := 100) K dX12_test_100 rfl ?_
  refine gX12_opened (pc := 101) K hy (by decide) jn_X12 (List.mem_cons_of_mem _ jl_X12_209) dX12_test_101 ?_
  refine v_iconst (pc := 104) (v := 1) K dX12_test_104 rfl ?_
  refine v_iadd (pc := 105) K dX12_test_105 ?_
  refine pX12_opened (pc := 106) K hy (by decide) jn_X12 (List.mem_cons_of_mem _ jl_X12_209) dX12_test_106 ?_
  refine v_nmM hF (fun M35 hF => ?_)
  refine v_goto (pc := 109) (tgt := 12) K dX12_test_109 (by decide) ?_
  refine v_sub [1, 2] rfl ?_
  exact hk12 hF
def fX12_test_b54 (k12 : QM → Int32 → Option (Int32 × QM)) (M : QM) (s0 : Int32) : Option (Int32 × QM) := if s0 = (0 : Int32) then (k12 M s0) else (q_b (fX12_isWord M (6385252 : Int64)) fun r20 M21 => if r20 = (0 : Int32) then (fX12_test_b76 k12 M21 s0 (11 : Int32)) else (fX12_test_b76 k12 M21 s0 (10 : Int32)))
set_option maxRecDepth 100000 in
set_option maxHeartbeats 4000000 in
theorem bX12_test_54 {x : Cx} {y : Ly} (l : Launch) (K : VK x l rmX12_test y 3 cX12_test RX12 wqX12_test) (hy : y.2.2.2.2 = 1) {z : Int32 × QM} (hQ : VQ x y (some (.int z.1)) z.2 (some .boolean)) {k12 : QM → Int32 → Option (Int32 × QM)} (hk12 : ∀ {M : QM} {x1 : Int32}, k12 M x1 = some z → V x y 3 M 12 [(0, .ref (ly_o y 1000)), (1, .int x1)] []) {M : QM} {s0 : Int32} (hF : fX12_test_b54 k12 M s0 = some z) : V x y 3 M 54 [(0, .ref (ly_o y 1000))] [.int s0] := by
  unfold fX12_test_b54 at hF
  refine v_istore_n (pc := 54) (lv' := [(1, .int s0), (0, .ref (ly_o y 1000))]) K dX12_test_54 1 rfl (by decide) rfl ?_
  refine v_iload_n (pc := 55) K dX12_test_55 0 rfl ?_
  refine v_if_eq (pc := 56) (tgt := 12) K dX12_test_56 (by decide) hF (fun c23 hF => ?_) (fun c23 hF => ?_)
  · refine v_sub [1, 0] rfl ?_
    exact hk12 hF
  · refine v_aload_n (pc := 59) K dX12_test_59 1 rfl ?_
    refine v_ldc2 (pc := 60) (v := 6385252) K dX12_test_60 (List.mem_cons_of_mem _ jl_X12_239) ?_
    obtain ⟨r20, M21, hc19, hF⟩ := q_bE hF
    refine v_callV (pc := 63) (ci := 11) (As := [.long (6385252 : Int64)]) (rest := []) (st' := [.int r20]) (r := some (.int r20)) (M1 := M21) K (kX12_isWord l K.2.2.2.2.2.2.1 hy hc19) (jg_V jl_X12_131 jw_i_X12_isWord jw_s_X12_isWord jw_n_X12 jw_c_X12_isWord) rfl rfl rfl jd_X12_isWord ⟨Nat.le_of_ble_eq_true rfl, Nat.le_of_ble_eq_true rfl⟩ rfl rfl (Nat.le_of_ble_eq_true rfl) (by decide) (okc_1 hy) rfl dX12_test_63 rfl ?_
    refine v_if_eq (pc := 66) (tgt := 74) K dX12_test_66 (by decide) hF (fun c22 hF => ?_) (fun c22 hF => ?_)
    · refine v_bipush (pc := 74) (v := 11) K dX12_test_74 rfl ?_
      refine v_sub [1, 0] rfl ?_
      exact bX12_test_76 l K hy hQ hk12 hF
    · refine v_bipush (pc := 69) (v := 10) K dX12_test_69 rfl ?_
      refine v_goto (pc := 71) (tgt := 76) K dX12_test_71 (by decide) ?_
      refine v_sub [1, 0] rfl ?_
      exact bX12_test_76 l K hy hQ hk12 hF
def fX12_test_b49 (k12 : QM → Int32 → Option (Int32 × QM)) (M : QM) : Option (Int32 × QM) := (fX12_test_b54 k12 M (1 : Int32))
set_option maxRecDepth 100000 in
set_option maxHeartbeats 4000000 in
theorem bX12_test_49 {x : Cx} {y : Ly} (l : Launch) (K : VK x l rmX12_test y 3 cX12_test RX12 wqX12_test) (hy : y.2.2.2.2 = 1) {z : Int32 × QM} (hQ : VQ x y (some (.int z.1)) z.2 (some .boolean)) {k12 : QM → Int32 → Option (Int32 × QM)} (hk12 : ∀ {M : QM} {x1 : Int32}, k12 M x1 = some z → V x y 3 M 12 [(0, .ref (ly_o y 1000)), (1, .int x1)] []) {M : QM} (hF : fX12_test_b49 k12 M  = some z) : V x y 3 M 49 [(0, .ref (ly_o y 1000))] [] := by
  unfold fX12_test_b49 at hF
  refine v_iconst (pc := 49) (v := 1) K dX12_test_49 rfl ?_
  refine v_goto (pc := 50) (tgt := 54) K dX12_test_50 (by decide) ?_
  exact bX12_test_54 l K hy hQ hk12 hF
def fX12_test_b112 (M : QM) : Option (Int32 × QM) := (q_b (fX12_isInside M) fun r37 M38 => if r37 = (0 : Int32) then (q_bv (fX12_settles M38 (1 : Int32)) fun M41 => some ((1 : Int32), M41)) else (q_b (fX12_see M38) fun r43 M44 => (q_b (fX12_fails M44 (0 : Int32) (q_i M44 1000 14)) fun r46 M47 => if q_z r46 then some (r46, M47) else none)))
set_option maxRecDepth 100000 in
set_option maxHeartbeats 4000000 in
theorem bX12_test_112 {x : Cx} {y : Ly} (l : Launch) (K : VK x l rmX12_test y 3 cX12_test RX12 wqX12_test) (hy : y.2.2.2.2 = 1) {z : Int32 × QM} (hQ : VQ x y (some (.int z.1)) z.2 (some .boolean)) {M : QM} (hF : fX12_test_b112 M  = some z) : V x y 3 M 112 [(0, .ref (ly_o y 1000))] [] := by
  unfold fX12_test_b112 at hF
  refine v_aload_n (pc := 112) K dX12_test_112 0 rfl ?_
  obtain ⟨r37, M38, hc36, hF⟩ := q_bE hF
  refine v_callV (pc := 113) (ci := 11) (As := []) (rest := []) (st' := [.int r37]) (r := some (.int r37)) (M1 := M38) K (kX12_isInside l K.2.2.2.2.2.2.1 hy hc36) (jg_V jl_X12_230 jw_i_X12_isInside jw_s_X12_isInside jw_n_X12 jw_c_X12_isInside) rfl rfl rfl jd_X12_isInside ⟨Nat.le_of_ble_eq_true rfl, Nat.le_of_ble_eq_true rfl⟩ rfl rfl (Nat.le_of_ble_eq_true rfl) (by decide) (okc_1 hy) rfl dX12_test_113 rfl ?_
  refine v_if_eq (pc := 116) (tgt := 134) K dX12_test_116 (by decide) hF (fun c49 hF => ?_) (fun c49 hF => ?_)
  · refine v_aload_n (pc := 134) K dX12_test_134 0 rfl ?_
    refine v_iconst (pc := 135) (v := 1) K dX12_test_135 rfl ?_
    obtain ⟨M41, hc39, hF⟩ := q_bvE hF
    refine v_callV (pc := 136) (ci := 11) (As := [.int (1 : Int32)]) (rest := []) (st' := []) (r := none) (M1 := M41) K (kX12_settles l K.2.2.2.2.2.2.1 hy hc39) (jg_V jl_X12_227 jw_i_X12_settles jw_s_X12_settles jw_n_X12 jw_c_X12_settles) rfl rfl rfl jd_X12_settles ⟨Nat.le_of_ble_eq_true rfl, Nat.le_of_ble_eq_true rfl⟩ rfl rfl (Nat.le_of_ble_eq_true rfl) (by decide) (okc_1 hy) rfl dX12_test_136 rfl ?_
    refine v_iconst (pc := 139) (v := 1) K dX12_test_139 rfl ?_
    have hz := (Option.some.inj hF).symm
    subst hz
    exact v_zret (pc := 140) K hQ rfl dX12_test_140
  · refine v_aload_n (pc := 119) K dX12_test_119 0 rfl ?_
    obtain ⟨r43, M44, hc42, hF⟩ := q_bE hF
    refine v_callV (pc := 120) (ci := 11) (As := []) (rest := []) (st' := [.int r43]) (r := some (.int r43)) (M1 := M44) K (kX12_see l K.2.2.2.2.2.2.1 hy hc42) (jg_V jl_X12_124 jw_i_X12_see jw_s_X12_see jw_n_X12 jw_c_X12_see) rfl rfl rfl jd_X12_see ⟨Nat.le_of_ble_eq_true rfl, Nat.le_of_ble_eq_true rfl⟩ rfl rfl (Nat.le_of_ble_eq_true rfl) (by decide) (okc_1 hy) rfl dX12_test_120 rfl ?_
    refine v_pop (pc := 123) K dX12_test_123 rfl ?_
    refine v_aload_n (pc := 124) K dX12_test_124 0 rfl ?_
    refine v_iconst (pc := 125) (v := 0) K dX12_test_125 rfl ?_
    refine v_aload_n (pc := 126) K dX12_test_126 0 rfl ?_
    refine gX12_next (pc := 127) K hy (by decide) jn_X12 (List.mem_cons_of_mem _ jl_X12_121) dX12_test_127 ?_
    obtain ⟨r46, M47, hc45, hF⟩ := q_bE hF
    refine v_callV (pc := 130) (ci := 11) (As := [.int (0 : Int32), .int (q_i M44 1000 14)]) (rest := []) (st' := [.int r46]) (r := some (.int r46)) (M1 := M47) K (kX12_fails l K.2.2.2.2.2.2.1 hy hc45) (jg_V jl_X12_141 jw_i_X12_fails jw_s_X12_fails jw_n_X12 jw_c_X12_fails) rfl rfl rfl jd_X12_fails ⟨Nat.le_of_ble_eq_true rfl, Nat.le_of_ble_eq_true rfl⟩ rfl rfl (Nat.le_of_ble_eq_true rfl) (by decide) (okc_1 hy) rfl dX12_test_130 rfl ?_
    obtain ⟨hz48, hF⟩ := q_kE hF
    have hz := (Option.some.inj hF).symm
    subst hz
    exact v_zret (pc := 133) K hQ (q_zn hz48) dX12_test_133
def fX12_test_b12 : Nat → QM → Int32 → Option (Int32 × QM)
  | 0, _, _ => none
  | q + 1, M, x1 => if x1 = (0 : Int32) then (fX12_test_b112 M) else (q_b (fX12_fact M) fun r4 M5 => if r4 ≠ (0 : Int32) then (q_bv (fX12_closes M5) fun M8 => (q_b (fX12_isWord M8 (6385252 : Int64)) fun r10 M11 => if r10 ≠ (0 : Int32) then (fX12_test_b49 (fun M x1 => fX12_test_b12 q M x1) M11) else (q_b (fX12_isWord M11 (28530 : Int64)) fun r13 M14 => if r13 = (0 : Int32) then (fX12_test_b54 (fun M x1 => fX12_test_b12 q M x1) M14 (0 : Int32)) else (fX12_test_b49 (fun M x1 => fX12_test_b12 q M x1) M14)))) else some ((0 : Int32), M5))
set_option maxRecDepth 100000 in
set_option maxHeartbeats 4000000 in
theorem bX12_test_12 {x : Cx} {y : Ly} (l : Launch) (K : VK x l rmX12_test y 3 cX12_test RX12 wqX12_test) (hy : y.2.2.2.2 = 1) {z : Int32 × QM} (hQ : VQ x y (some (.int z.1)) z.2 (some .boolean)) : ∀ (q : Nat) {M : QM} {x1 : Int32},  fX12_test_b12 q M x1 = some z → V x y 3 M 12 [(0, .ref (ly_o y 1000)), (1, .int x1)] [] := by
  intro q
  induction q with
  | zero =>
    intro M x1  hF
    rw [fX12_test_b12] at hF
    cases hF
  | succ q ih =>
    intro M x1  hF
    rw [fX12_test_b12] at hF
    refine v_iload_n (pc := 12) K dX12_test_12 1 rfl ?_
    refine v_if_eq (pc := 13) (tgt := 112) K dX12_test_13 (by decide) hF (fun c18 hF => ?_) (fun c18 hF => ?_)
    · refine v_sub [0] rfl ?_
      exact bX12_test_112 l K hy hQ hF
    · refine v_aload_n (pc := 16) K dX12_test_16 0 rfl ?_
      obtain ⟨r4, M5, hc3, hF⟩ := q_bE hF
      refine v_callV (pc := 17) (ci := 11) (As := []) (rest := []) (st' := [.int r4]) (r := some (.int r4)) (M1 := M5) K (kX12_fact l K.2.2.2.2.2.2.1 hy hc3) (jg_V jl_X12_233 jw_i_X12_fact jw_s_X12_fact jw_n_X12 jw_c_X12_fact) rfl rfl rfl jd_X12_fact ⟨Nat.le_of_ble_eq_true rfl, Nat.le_of_ble_eq_true rfl⟩ rfl rfl (Nat.le_of_ble_eq_true rfl) (by decide) (okc_1 hy) rfl dX12_test_17 rfl ?_
      refine v_if_ne (pc := 20) (tgt := 25) K dX12_test_20 (by decide) hF (fun c17 hF => ?_) (fun c17 hF => ?_)
      · refine v_aload_n (pc := 25) K dX12_test_25 0 rfl ?_
        obtain ⟨M8, hc6, hF⟩ := q_bvE hF
        refine v_callV (pc := 26) (ci := 11) (As := []) (rest := []) (st' := []) (r := none) (M1 := M8) K (kX12_closes l K.2.2.2.2.2.2.1 hy hc6) (jg_V jl_X12_236 jw_i_X12_closes jw_s_X12_closes jw_n_X12 jw_c_X12_closes) rfl rfl rfl jd_X12_closes ⟨Nat.le_of_ble_eq_true rfl, Nat.le_of_ble_eq_true rfl⟩ rfl rfl (Nat.le_of_ble_eq_true rfl) (by decide) (okc_1 hy) rfl dX12_test_26 rfl ?_
        refine v_aload_n (pc := 29) K dX12_test_29 0 rfl ?_
        refine v_ldc2 (pc := 30) (v := 6385252) K dX12_test_30 (List.mem_cons_of_mem _ jl_X12_239) ?_
        obtain ⟨r10, M11, hc9, hF⟩ := q_bE hF
        refine v_callV (pc := 33) (ci := 11) (As := [.long (6385252 : Int64)]) (rest := []) (st' := [.int r10]) (r := some (.int r10)) (M1 := M11) K (kX12_isWord l K.2.2.2.2.2.2.1 hy hc9) (jg_V jl_X12_131 jw_i_X12_isWord jw_s_X12_isWord jw_n_X12 jw_c_X12_isWord) rfl rfl rfl jd_X12_isWord ⟨Nat.le_of_ble_eq_true rfl, Nat.le_of_ble_eq_true rfl⟩ rfl rfl (Nat.le_of_ble_eq_true rfl) (by decide) (okc_1 hy) rfl dX12_test_33 rfl ?_
        refine v_if_ne (pc := 36) (tgt := 49) K dX12_test_36 (by decide) hF (fun c16 hF => ?_) (fun c16 hF => ?_)
        · refine v_sub [0] rfl ?_
          exact bX12_test_49 l K hy hQ ih hF
        · refine v_aload_n (pc := 39) K dX12_test_39 0 rfl ?_
          refine v_ldc2 (pc := 40) (v := 28530) K dX12_test_40 (List.mem_cons_of_mem _ jl_X12_241) ?_
          obtain ⟨r13, M14, hc12, hF⟩ := q_bE hF
          refine v_callV (pc := 43) (ci := 11) (As := [.long (28530 : Int64)]) (rest := []) (st' := [.int r13]) (r := some (.int r13)) (M1 := M14) K (kX12_isWord l K.2.2.2.2.2.2.1 hy hc12) (jg_V jl_X12_131 jw_i_X12_isWord jw_s_X12_isWord jw_n_X12 jw_c_X12_isWord) rfl rfl rfl jd_X12_isWord ⟨Nat.le_of_ble_eq_true rfl, Nat.le_of_ble_eq_true rfl⟩ rfl rfl (Nat.le_of_ble_eq_true rfl) (by decide) (okc_1 hy) rfl dX12_test_43 rfl ?_
          refine v_if_eq (pc := 46) (tgt := 53) K dX12_test_46 (by decide) hF (fun c15 hF => ?_) (fun c15 hF => ?_)
          · refine v_iconst (pc := 53) (v := 0) K dX12_test_53 rfl ?_
            refine v_sub [0] rfl ?_
            exact bX12_test_54 l K hy hQ ih hF
          · refine v_sub [0] rfl ?_
            exact bX12_test_49 l K hy hQ ih hF
      · refine v_iconst (pc := 23) (v := 0) K dX12_test_23 rfl ?_
        have hz := (Option.some.inj hF).symm
        subst hz
        exact v_zret (pc := 24) K hQ rfl dX12_test_24
def fX12_test (M : QM) : Option (Int32 × QM) := (q_t (p_i M 1000 21 (0 : Int32)) fun M1 => (q_t (p_i M1 1000 19 (0 : Int32)) fun M2 => (fX12_test_b12 q_F M2 (1 : Int32))))
set_option maxRecDepth 100000 in
set_option maxHeartbeats 4000000 in
theorem bX12_test_0 {x : Cx} {y : Ly} (l : Launch) (K : VK x l rmX12_test y 3 cX12_test RX12 wqX12_test) (hy : y.2.2.2.2 = 1) {z : Int32 × QM} (hQ : VQ x y (some (.int z.1)) z.2 (some .boolean)) {M : QM} (hF : fX12_test M  = some z) : V x y 3 M 0 [(0, .ref (ly_o y 1000))] [] := by
  unfold fX12_test at hF
  refine v_aload_n (pc := 0) K dX12_test_0 0 rfl ?_
  refine v_iconst (pc := 1) (v := 0) K dX12_test_1 rfl ?_
  refine pX12_opened (pc := 2) K hy (by decide) jn_X12 (List.mem_cons_of_mem _ jl_X12_209) dX12_test_2 ?_
  refine v_nmM hF (fun M1 hF => ?_)
  refine v_aload_n (pc := 5) K dX12_test_5 0 rfl ?_
  refine v_iconst (pc := 6) (v := 0) K dX12_test_6 rfl ?_
  refine pX12_deep (pc := 7) K hy (by decide) jn_X12 (List.mem_cons_of_mem _ jl_X12_216) dX12_test_7 ?_
  refine v_nmM hF (fun M2 hF => ?_)
  refine v_iconst (pc := 10) (v := 1) K dX12_test_10 rfl ?_
  refine v_istore_n (pc := 11) (lv' := [(1, .int (1 : Int32)), (0, .ref (ly_o y 1000))]) K dX12_test_11 1 rfl (by decide) rfl ?_
  refine v_sub [1, 0] rfl ?_
  exact bX12_test_12 l K hy hQ q_F hF
set_option maxRecDepth 100000 in
set_option maxHeartbeats 4000000 in
theorem kX12_test (l : Launch) {y : Ly} (hJ : ly_J y) (hy : y.2.2.2.2 = 1) {M M1 : QM} {r : Int32} (hF : fX12_test M  = some (r, M1)) : Met l yX12_test wqX12_test rmX12_test (q_P y [.ref (ly_o y 1000)] M) (q_E y (some (.int r)) M1) 0 0 (ly_A y) :=
  q_met (by decide) rfl hJ rfl rfl rfl (fun x K hQ => bX12_test_0 l K hy (z := (r, M1)) hQ  hF)
-- ===== X12_weighed (IIIZ)Z
theorem jd_X12_weighed : yX12_weighed.cls = RX12 ∧ yX12_weighed.cls ≠ "java/lang/invoke/MethodHandle" ∧ yX12_weighed.cls ≠ "java/lang/invoke/VarHandle" ∧ (parseMethodDescriptor yX12_weighed.desc).map (fun d => d.parameters.length) = some 4 := by decide +kernel
abbrev wqX12_weighed : List Cond := .code yX12_weighed cX12_weighed 6 (some .boolean) :: wsL_law
abbrev rmX12_weighed : Room := { frames := 8, cells := 0, slots := 0, locals := 177 }
def fX12_weighed_b90 (M : QM) (x5 : Int32) : Option (Int32 × QM) := (if q_in (q_i M 1000 17) 6 then (if q_in (x5 + (4 : Int32)) 420 then (q_t (p_a M 1000 8 (x5 + (4 : Int32)).toNatClampNeg (q_a M 1000 7 (q_i M 1000 17).toNatClampNeg)) fun M20 => (if q_in (q_i M20 1000 17) 6 then (if q_in (q_i M20 1000 17) 6 then (q_t (p_a M20 1000 9 (q_i M20 1000 17).toNatClampNeg ((q_a M20 1000 9 (q_i M20 1000 17).toNatClampNeg) + (1 : Int32))) fun M23 => some ((1 : Int32), M23)) else none) else none)) else none) else none)
set_option maxRecDepth 100000 in
set_option maxHeartbeats 4000000 in
theorem bX12_weighed_90 {x : Cx} {y : Ly} (l : Launch) (K : VK x l rmX12_weighed y 6 cX12_weighed RX12 wqX12_weighed) (hy : y.2.2.2.2 = 1) {z : Int32 × QM} (hQ : VQ x y (some (.int z.1)) z.2 (some .boolean)) {M : QM} {x5 : Int32} (hF : fX12_weighed_b90 M x5 = some z) : V x y 6 M 90 [(0, .ref (ly_o y 1000)), (5, .int x5)] [] := by
  unfold fX12_weighed_b90 at hF
  refine v_aload_n (pc := 90) K dX12_weighed_90 0 rfl ?_
  refine gX12_clause (pc := 91) K hy (by decide) jn_X12 (List.mem_cons_of_mem _ jl_X12_26) dX12_weighed_91 ?_
  refine v_iload (pc := 94) K dX12_weighed_94 1 rfl ?_
  refine v_iconst (pc := 96) (v := 4) K dX12_weighed_96 rfl ?_
  refine v_iadd (pc := 97) K dX12_weighed_97 ?_
  refine v_aload_n (pc := 98) K dX12_weighed_98 0 rfl ?_
  refine gX12_length (pc := 99) K hy (by decide) jn_X12 (List.mem_cons_of_mem _ jl_X12_23) dX12_weighed_99 ?_
  refine v_aload_n (pc := 102) K dX12_weighed_102 0 rfl ?_
  refine gX12_text (pc := 103) K hy (by decide) jn_X12 (List.mem_cons_of_mem _ jl_X12_183) dX12_weighed_103 ?_
  refine iX12_length (pc := 106) K hy (by decide) hF dX12_weighed_106 (fun hi18 hF => ?_)
  refine uX12_clause (pc := 107) K hy (by decide) hF dX12_weighed_107 (fun hi19 hF => ?_)
  refine v_nmM hF (fun M20 hF => ?_)
  refine v_aload_n (pc := 108) K dX12_weighed_108 0 rfl ?_
  refine gX12_clauses (pc := 109) K hy (by decide) jn_X12 (List.mem_cons_of_mem _ jl_X12_29) dX12_weighed_109 ?_
  refine v_aload_n (pc := 112) K dX12_weighed_112 0 rfl ?_
  refine gX12_text (pc := 113) K hy (by decide) jn_X12 (List.mem_cons_of_mem _ jl_X12_183) dX12_weighed_113 ?_
  refine v_dup2 (pc := 116) K dX12_weighed_116 rfl rfl ?_
  refine iX12_clauses (pc := 117) K hy (by decide) hF dX12_weighed_117 (fun hi21 hF => ?_)
  refine v_iconst (pc := 118) (v := 1) K dX12_weighed_118 rfl ?_
  refine v_iadd (pc := 119) K dX12_weighed_119 ?_
  refine uX12_clauses (pc := 120) K hy (by decide) hF dX12_weighed_120 (fun hi22 hF => ?_)
  refine v_nmM hF (fun M23 hF => ?_)
  refine v_iconst (pc := 121) (v := 1) K dX12_weighed_121 rfl ?_
  have hz := (Option.some.inj hF).symm
  subst hz
  exact v_zret (pc := 122) K hQ rfl dX12_weighed_122
def fX12_weighed_b75 (M : QM) (x4 : Int32) (x5 : Int32) (s0 : Int32) (s1 : Int32) : Option (Int32 × QM) := (if q_in s1 420 then (q_t (p_a M 1000 8 s1.toNatClampNeg s0) fun M12 => if x4 = (0 : Int32) then (fX12_weighed_b90 M12 x5) else (q_b (fX12_test M12) fun r14 M15 => if r14 ≠ (0 : Int32) then (fX12_weighed_b90 M15 x5) else some ((0 : Int32), M15))) else none)
set_option maxRecDepth 100000 in
set_option maxHeartbeats 4000000 in
theorem bX12_weighed_75 {x : Cx} {y : Ly} (l : Launch) (K : VK x l rmX12_weighed y 6 cX12_weighed RX12 wqX12_weighed) (hy : y.2.2.2.2 = 1) {z : Int32 × QM} (hQ : VQ x y (some (.int z.1)) z.2 (some .boolean)) {M : QM} {x4 : Int32} {x5 : Int32} {s0 : Int32} {s1 : Int32} (hF : fX12_weighed_b75 M x4 x5 s0 s1 = some z) : V x y 6 M 75 [(0, .ref (ly_o y 1000)), (4, .int x4), (5, .int x5)] [.int s0, .int s1, .ref (ly_a y 1000 8)] := by
  unfold fX12_weighed_b75 at hF
  refine uX12_clause (pc := 75) K hy (by decide) hF dX12_weighed_75 (fun hi11 hF => ?_)
  refine v_nmM hF (fun M12 hF => ?_)
  refine v_iload (pc := 76) K dX12_weighed_76 1 rfl ?_
  refine v_if_eq (pc := 78) (tgt := 90) K dX12_weighed_78 (by decide) hF (fun c17 hF => ?_) (fun c17 hF => ?_)
  · refine v_sub [0, 2] rfl ?_
    exact bX12_weighed_90 l K hy hQ hF
  · refine v_aload_n (pc := 81) K dX12_weighed_81 0 rfl ?_
    obtain ⟨r14, M15, hc13, hF⟩ := q_bE hF
    refine v_callV (pc := 82) (ci := 11) (As := []) (rest := []) (st' := [.int r14]) (r := some (.int r14)) (M1 := M15) K (kX12_test l K.2.2.2.2.2.2.1 hy hc13) (jg_V jl_X12_243 jw_i_X12_test jw_s_X12_test jw_n_X12 jw_c_X12_test) rfl rfl rfl jd_X12_test ⟨Nat.le_of_ble_eq_true rfl, Nat.le_of_ble_eq_true rfl⟩ rfl rfl (Nat.le_of_ble_eq_true rfl) (by decide) (okc_1 hy) rfl dX12_weighed_82 rfl ?_
    refine v_if_ne (pc := 85) (tgt := 90) K dX12_weighed_85 (by decide) hF (fun c16 hF => ?_) (fun c16 hF => ?_)
    · refine v_sub [0, 2] rfl ?_
      exact bX12_weighed_90 l K hy hQ hF
    · refine v_iconst (pc := 88) (v := 0) K dX12_weighed_88 rfl ?_
      have hz := (Option.some.inj hF).symm
      subst hz
      exact v_zret (pc := 89) K hQ rfl dX12_weighed_89
def fX12_weighed (M : QM) (x1 : Int32) (x2 : Int32) (x3 : Int32) (x4 : Int32) : Option (Int32 × QM) := (if q_in (q_i M 1000 17) 6 then (q_t (((70 : Int32) * (q_i M 1000 17)) + ((5 : Int32) * (q_a M 1000 9 (q_i M 1000 17).toNatClampNeg))) fun v2 => (if q_in v2 420 then (q_t (p_a M 1000 8 v2.toNatClampNeg x1) fun M4 => (if q_in (v2 + (1 : Int32)) 420 then (q_t (p_a M4 1000 8 (v2 + (1 : Int32)).toNatClampNeg x2) fun M6 => (if q_in (v2 + (2 : Int32)) 420 then (q_t (p_a M6 1000 8 (v2 + (2 : Int32)).toNatClampNeg x3) fun M8 => if x4 = (0 : Int32) then (fX12_weighed_b75 M8 x4 v2 (-1 : Int32) (v2 + (3 : Int32))) else (if q_in (q_i M8 1000 17) 6 then (fX12_weighed_b75 M8 x4 v2 (q_a M8 1000 7 (q_i M8 1000 17).toNatClampNeg) (v2 + (3 : Int32))) else none)) else none)) else none)) else none)) else none)
set_option maxRecDepth 100000 in
set_option maxHeartbeats 4000000 in
theorem bX12_weighed_0 {x : Cx} {y : Ly} (l : Launch) (K : VK x l rmX12_weighed y 6 cX12_weighed RX12 wqX12_weighed) (hy : y.2.2.2.2 = 1) {z : Int32 × QM} (hQ : VQ x y (some (.int z.1)) z.2 (some .boolean)) {M : QM} {x1 : Int32} {x2 : Int32} {x3 : Int32} {x4 : Int32} (hF : fX12_weighed M x1 x2 x3 x4 = some z) : V x y 6 M 0 [(0, .ref (ly_o y 1000)), (1, .int x1), (2, .int x2), (3, .int x3), (4, .int x4)] [] := by
  unfold fX12_weighed at hF
  refine v_bipush (pc := 0) (v := 70) K dX12_weighed_0 rfl ?_
  refine v_aload_n (pc := 2) K dX12_weighed_2 0 rfl ?_
  refine gX12_text (pc := 3) K hy (by decide) jn_X12 (List.mem_cons_of_mem _ jl_X12_183) dX12_weighed_3 ?_
  refine v_imul (pc := 6) K dX12_weighed_6 ?_
  refine v_iconst (pc := 7) (v := 5) K dX12_weighed_7 rfl ?_
  refine v_aload_n (pc := 8) K dX12_weighed_8 0 rfl ?_
  refine gX12_clauses (pc := 9) K hy (by decide) jn_X12 (List.mem_cons_of_mem _ jl_X12_29) dX12_weighed_9 ?_
  refine v_aload_n (pc := 12) K dX12_weighed_12 0 rfl ?_
  refine gX12_text (pc := 13) K hy (by decide) jn_X12 (List.mem_cons_of_mem _ jl_X12_183) dX12_weighed_13 ?_
  refine iX12_clauses (pc := 16) K hy (by decide) hF dX12_weighed_16 (fun hi1 hF => ?_)
  refine v_imul (pc := 17) K dX12_weighed_17 ?_
  refine v_iadd (pc := 18) K dX12_weighed_18 ?_
  refine v_nmI hF (fun v2 hF => ?_)
  refine v_istore (pc := 19) (lv' := [(5, .int v2), (0, .ref (ly_o y 1000)), (1, .int x1), (2, .int x2), (3, .int x3), (4, .int x4)]) K 5 dX12_weighed_19 (by decide) rfl ?_
  refine v_aload_n (pc := 21) K dX12_weighed_21 1 rfl ?_
  refine gX12_clause (pc := 22) K hy (by decide) jn_X12 (List.mem_cons_of_mem _ jl_X12_26) dX12_weighed_22 ?_
  refine v_iload (pc := 25) K dX12_weighed_25 0 rfl ?_
  refine v_iload_n (pc := 27) K dX12_weighed_27 2 rfl ?_
  refine uX12_clause (pc := 28) K hy (by decide) hF dX12_weighed_28 (fun hi3 hF => ?_)
  refine v_nmM hF (fun M4 hF => ?_)
  refine v_aload_n (pc := 29) K dX12_weighed_29 1 rfl ?_
  refine gX12_clause (pc := 30) K hy (by decide) jn_X12 (List.mem_cons_of_mem _ jl_X12_26) dX12_weighed_30 ?_
  refine v_iload (pc := 33) K dX12_weighed_33 0 rfl ?_
  refine v_iconst (pc := 35) (v := 1) K dX12_weighed_35 rfl ?_
  refine v_iadd (pc := 36) K dX12_weighed_36 ?_
  refine v_iload_n (pc := 37) K dX12_weighed_37 3 rfl ?_
  refine uX12_clause (pc := 38) K hy (by decide) hF dX12_weighed_38 (fun hi5 hF => ?_)
  refine v_nmM hF (fun M6 hF => ?_)
  refine v_aload_n (pc := 39) K dX12_weighed_39 1 rfl ?_
  refine gX12_clause (pc := 40) K hy (by decide) jn_X12 (List.mem_cons_of_mem _ jl_X12_26) dX12_weighed_40 ?_
  refine v_iload (pc := 43) K dX12_weighed_43 0 rfl ?_
  refine v_iconst (pc := 45) (v := 2) K dX12_weighed_45 rfl ?_
  refine v_iadd (pc := 46) K dX12_weighed_46 ?_
  refine v_iload_n (pc := 47) K dX12_weighed_47 4 rfl ?_
  refine uX12_clause (pc := 48) K hy (by decide) hF dX12_weighed_48 (fun hi7 hF => ?_)
  refine v_nmM hF (fun M8 hF => ?_)
  refine v_aload_n (pc := 49) K dX12_weighed_49 1 rfl ?_
  refine gX12_clause (pc := 50) K hy (by decide) jn_X12 (List.mem_cons_of_mem _ jl_X12_26) dX12_weighed_50 ?_
  refine v_iload (pc := 53) K dX12_weighed_53 0 rfl ?_
  refine v_iconst (pc := 55) (v := 3) K dX12_weighed_55 rfl ?_
  refine v_iadd (pc := 56) K dX12_weighed_56 ?_
  refine v_iload (pc := 57) K dX12_weighed_57 5 rfl ?_
  refine v_if_eq (pc := 59) (tgt := 74) K dX12_weighed_59 (by decide) hF (fun c10 hF => ?_) (fun c10 hF => ?_)
  · refine v_iconst (pc := 74) (v := -1) K dX12_weighed_74 rfl ?_
    refine v_sub [1, 5, 0] rfl ?_
    exact bX12_weighed_75 l K hy hQ hF
  · refine v_aload_n (pc := 62) K dX12_weighed_62 1 rfl ?_
    refine gX12_length (pc := 63) K hy (by decide) jn_X12 (List.mem_cons_of_mem _ jl_X12_23) dX12_weighed_63 ?_
    refine v_aload_n (pc := 66) K dX12_weighed_66 1 rfl ?_
    refine gX12_text (pc := 67) K hy (by decide) jn_X12 (List.mem_cons_of_mem _ jl_X12_183) dX12_weighed_67 ?_
    refine iX12_length (pc := 70) K hy (by decide) hF dX12_weighed_70 (fun hi9 hF => ?_)
    refine v_goto (pc := 71) (tgt := 75) K dX12_weighed_71 (by decide) ?_
    refine v_sub [1, 5, 0] rfl ?_
    exact bX12_weighed_75 l K hy hQ hF
set_option maxRecDepth 100000 in
set_option maxHeartbeats 4000000 in
theorem kX12_weighed (l : Launch) {y : Ly} (hJ : ly_J y) (hy : y.2.2.2.2 = 1) {M M1 : QM} {r : Int32} {x1 : Int32} {x2 : Int32} {x3 : Int32} {x4 : Int32} (hF : fX12_weighed M x1 x2 x3 x4 = some (r, M1)) : Met l yX12_weighed wqX12_weighed rmX12_weighed (q_P y [.ref (ly_o y 1000), .int x1, .int x2, .int x3, .int x4] M) (q_E y (some (.int r)) M1) 0 0 (ly_A y) :=
  q_met (by decide) rfl hJ rfl rfl rfl (fun x K hQ => bX12_weighed_0 l K hy (z := (r, M1)) hQ  hF)
-- ===== X12_kinded (I)Z
theorem jd_X12_kinded : yX12_kinded.cls = RX12 ∧ yX12_kinded.cls ≠ "java/lang/invoke/MethodHandle" ∧ yX12_kinded.cls ≠ "java/lang/invoke/VarHandle" ∧ (parseMethodDescriptor yX12_kinded.desc).map (fun d => d.parameters.length) = some 1 := by decide +kernel
abbrev wqX12_kinded : List Cond := .code yX12_kinded cX12_kinded 5 (some .boolean) :: wsL_law
abbrev rmX12_kinded : Room := { frames := 9, cells := 0, slots := 0, locals := 202 }
def fX12_kinded_b58 (M : QM) (x1 : Int32) (x3 : Int32) (s0 : Int32) (s1 : Int32) : Option (Int32 × QM) := (q_b (fX12_number M s1 s0) fun r24 M25 => if r24 ≠ (0 : Int32) then (q_b (fX12_takesWord M25 (26982 : Int64)) fun r27 M28 => (q_b (fX12_weighed M28 x1 x3 (q_i M25 1000 16) r27) fun r30 M31 => if q_z r30 then some (r30, M31) else none)) else some ((0 : Int32), M25))
set_option maxRecDepth 100000 in
set_option maxHeartbeats 4000000 in
theorem bX12_kinded_58 {x : Cx} {y : Ly} (l : Launch) (K : VK x l rmX12_kinded y 5 cX12_kinded RX12 wqX12_kinded) (hy : y.2.2.2.2 = 1) {z : Int32 × QM} (hQ : VQ x y (some (.int z.1)) z.2 (some .boolean)) {M : QM} {x1 : Int32} {x3 : Int32} {s0 : Int32} {s1 : Int32} (hF : fX12_kinded_b58 M x1 x3 s0 s1 = some z) : V x y 5 M 58 [(0, .ref (ly_o y 1000)), (1, .int x1), (3, .int x3)] [.int s0, .int s1, .ref (ly_o y 1000)] := by
  unfold fX12_kinded_b58 at hF
  obtain ⟨r24, M25, hc23, hF⟩ := q_bE hF
  refine v_callV (pc := 58) (ci := 11) (As := [.int s1, .int s0]) (rest := []) (st' := [.int r24]) (r := some (.int r24)) (M1 := M25) K (kX12_number l K.2.2.2.2.2.2.1 hy hc23) (jg_V jl_X12_189 jw_i_X12_number jw_s_X12_number jw_n_X12 jw_c_X12_number) rfl rfl rfl jd_X12_number ⟨Nat.le_of_ble_eq_true rfl, Nat.le_of_ble_eq_true rfl⟩ rfl rfl (Nat.le_of_ble_eq_true rfl) (by decide) (okc_1 hy) rfl dX12_kinded_58 rfl ?_
  refine v_if_ne (pc := 61) (tgt := 66) K dX12_kinded_61 (by decide) hF (fun c33 hF => ?_) (fun c33 hF => ?_)
  · refine v_aload_n (pc := 66) K dX12_kinded_66 0 rfl ?_
    refine gX12_said (pc := 67) K hy (by decide) jn_X12 (List.mem_cons_of_mem _ jl_X12_144) dX12_kinded_67 ?_
    refine v_istore (pc := 70) (lv' := [(4, .int (q_i M25 1000 16)), (0, .ref (ly_o y 1000)), (1, .int x1), (3, .int x3)]) K 4 dX12_kinded_70 (by decide) rfl ?_
    refine v_aload_n (pc := 72) K dX12_kinded_72 1 rfl ?_
    refine v_iload_n (pc := 73) K dX12_kinded_73 2 rfl ?_
    refine v_iload_n (pc := 74) K dX12_kinded_74 3 rfl ?_
    refine v_iload (pc := 75) K dX12_kinded_75 0 rfl ?_
    refine v_aload_n (pc := 77) K dX12_kinded_77 1 rfl ?_
    refine v_ldc2 (pc := 78) (v := 26982) K dX12_kinded_78 (List.mem_cons_of_mem _ jl_X12_252) ?_
    obtain ⟨r27, M28, hc26, hF⟩ := q_bE hF
    refine v_callV (pc := 81) (ci := 11) (As := [.long (26982 : Int64)]) (rest := [.int (q_i M25 1000 16), .int x3, .int x1, .ref (ly_o y 1000)]) (st' := [.int r27, .int (q_i M25 1000 16), .int x3, .int x1, .ref (ly_o y 1000)]) (r := some (.int r27)) (M1 := M28) K (kX12_takesWord l K.2.2.2.2.2.2.1 hy hc26) (jg_V jl_X12_254 jw_i_X12_takesWord jw_s_X12_takesWord jw_n_X12 jw_c_X12_takesWord) rfl rfl rfl jd_X12_takesWord ⟨Nat.le_of_ble_eq_true rfl, Nat.le_of_ble_eq_true rfl⟩ rfl rfl (Nat.le_of_ble_eq_true rfl) (by decide) (okc_1 hy) rfl dX12_kinded_81 rfl ?_
    obtain ⟨r30, M31, hc29, hF⟩ := q_bE hF
    refine v_callV (pc := 84) (ci := 11) (As := [.int x1, .int x3, .int (q_i M25 1000 16), .int r27]) (rest := []) (st' := [.int r30]) (r := some (.int r30)) (M1 := M31) K (kX12_weighed l K.2.2.2.2.2.2.1 hy hc29) (jg_V jl_X12_257 jw_i_X12_weighed jw_s_X12_weighed jw_n_X12 jw_c_X12_weighed) rfl rfl rfl jd_X12_weighed ⟨Nat.le_of_ble_eq_true rfl, Nat.le_of_ble_eq_true rfl⟩ rfl rfl (Nat.le_of_ble_eq_true rfl) (by decide) (okc_1 hy) rfl dX12_kinded_84 rfl ?_
    obtain ⟨hz32, hF⟩ := q_kE hF
    have hz := (Option.some.inj hF).symm
    subst hz
    exact v_zret (pc := 87) K hQ (q_zn hz32) dX12_kinded_87
  · refine v_iconst (pc := 64) (v := 0) K dX12_kinded_64 rfl ?_
    have hz := (Option.some.inj hF).symm
    subst hz
    exact v_zret (pc := 65) K hQ rfl dX12_kinded_65
def fX12_kinded_b29 (M : QM) (x1 : Int32) (x2 : Int32) (s0 : Int32) : Option (Int32 × QM) := if (0 : Int32) ≤ s0 then (q_bv (fX12_passWord M) fun M16 => if x1 ≠ (0 : Int32) then (fX12_kinded_b58 M16 x1 s0 (15 : Int32) (0 : Int32)) else (fX12_kinded_b58 M16 x1 s0 (9 : Int32) (0 : Int32))) else (q_b (fX12_fails M (0 : Int32) x2) fun r19 M20 => if q_z r19 then some (r19, M20) else none)
set_option maxRecDepth 100000 in
set_option maxHeartbeats 4000000 in
theorem bX12_kinded_29 {x : Cx} {y : Ly} (l : Launch) (K : VK x l rmX12_kinded y 5 cX12_kinded RX12 wqX12_kinded) (hy : y.2.2.2.2 = 1) {z : Int32 × QM} (hQ : VQ x y (some (.int z.1)) z.2 (some .boolean)) {M : QM} {x1 : Int32} {x2 : Int32} {s0 : Int32} (hF : fX12_kinded_b29 M x1 x2 s0 = some z) : V x y 5 M 29 [(0, .ref (ly_o y 1000)), (1, .int x1), (2, .int x2)] [.int s0] := by
  unfold fX12_kinded_b29 at hF
  refine v_istore_n (pc := 29) (lv' := [(3, .int s0), (0, .ref (ly_o y 1000)), (1, .int x1), (2, .int x2)]) K dX12_kinded_29 3 rfl (by decide) rfl ?_
  refine v_iload_n (pc := 30) K dX12_kinded_30 0 rfl ?_
  refine v_if_ge (pc := 31) (tgt := 41) K dX12_kinded_31 (by decide) hF (fun c22 hF => ?_) (fun c22 hF => ?_)
  · refine v_aload_n (pc := 41) K dX12_kinded_41 1 rfl ?_
    obtain ⟨M16, hc14, hF⟩ := q_bvE hF
    refine v_callV (pc := 42) (ci := 11) (As := []) (rest := []) (st' := []) (r := none) (M1 := M16) K (kX12_passWord l K.2.2.2.2.2.2.1 hy hc14) (jg_V jl_X12_135 jw_i_X12_passWord jw_s_X12_passWord jw_n_X12 jw_c_X12_passWord) rfl rfl rfl jd_X12_passWord ⟨Nat.le_of_ble_eq_true rfl, Nat.le_of_ble_eq_true rfl⟩ rfl rfl (Nat.le_of_ble_eq_true rfl) (by decide) (okc_1 hy) rfl dX12_kinded_42 rfl ?_
    refine v_aload_n (pc := 45) K dX12_kinded_45 1 rfl ?_
    refine v_iconst (pc := 46) (v := 0) K dX12_kinded_46 rfl ?_
    refine v_iload_n (pc := 47) K dX12_kinded_47 2 rfl ?_
    refine v_if_ne (pc := 48) (tgt := 56) K dX12_kinded_48 (by decide) hF (fun c17 hF => ?_) (fun c17 hF => ?_)
    · refine v_bipush (pc := 56) (v := 15) K dX12_kinded_56 rfl ?_
      refine v_sub [1, 2, 0] rfl ?_
      exact bX12_kinded_58 l K hy hQ hF
    · refine v_bipush (pc := 51) (v := 9) K dX12_kinded_51 rfl ?_
      refine v_goto (pc := 53) (tgt := 58) K dX12_kinded_53 (by decide) ?_
      refine v_sub [1, 2, 0] rfl ?_
      exact bX12_kinded_58 l K hy hQ hF
  · refine v_aload_n (pc := 34) K dX12_kinded_34 1 rfl ?_
    refine v_iconst (pc := 35) (v := 0) K dX12_kinded_35 rfl ?_
    refine v_iload_n (pc := 36) K dX12_kinded_36 3 rfl ?_
    obtain ⟨r19, M20, hc18, hF⟩ := q_bE hF
    refine v_callV (pc := 37) (ci := 11) (As := [.int (0 : Int32), .int x2]) (rest := []) (st' := [.int r19]) (r := some (.int r19)) (M1 := M20) K (kX12_fails l K.2.2.2.2.2.2.1 hy hc18) (jg_V jl_X12_141 jw_i_X12_fails jw_s_X12_fails jw_n_X12 jw_c_X12_fails) rfl rfl rfl jd_X12_fails ⟨Nat.le_of_ble_eq_true rfl, Nat.le_of_ble_eq_true rfl⟩ rfl rfl (Nat.le_of_ble_eq_true rfl) (by decide) (okc_1 hy) rfl dX12_kinded_37 rfl ?_
    obtain ⟨hz21, hF⟩ := q_kE hF
    have hz := (Option.some.inj hF).symm
    subst hz
    exact v_zret (pc := 40) K hQ (q_zn hz21) dX12_kinded_40
def fX12_kinded (M : QM) (x1 : Int32) : Option (Int32 × QM) := (q_bv (fX12_passWord M) fun M3 => (q_b (fX12_see M3) fun r5 M6 => if x1 ≠ (0 : Int32) then (q_b (fX12_meansHere M6) fun r8 M9 => (fX12_kinded_b29 M9 x1 (q_i M6 1000 14) r8)) else (q_b (fX12_kindHere M6) fun r11 M12 => (fX12_kinded_b29 M12 x1 (q_i M6 1000 14) r11))))
set_option maxRecDepth 100000 in
set_option maxHeartbeats 4000000 in
theorem bX12_kinded_0 {x : Cx} {y : Ly} (l : Launch) (K : VK x l rmX12_kinded y 5 cX12_kinded RX12 wqX12_kinded) (hy : y.2.2.2.2 = 1) {z : Int32 × QM} (hQ : VQ x y (some (.int z.1)) z.2 (some .boolean)) {M : QM} {x1 : Int32} (hF : fX12_kinded M x1 = some z) : V x y 5 M 0 [(0, .ref (ly_o y 1000)), (1, .int x1)] [] := by
  unfold fX12_kinded at hF
  refine v_aload_n (pc := 0) K dX12_kinded_0 0 rfl ?_
  obtain ⟨M3, hc1, hF⟩ := q_bvE hF
  refine v_callV (pc := 1) (ci := 11) (As := []) (rest := []) (st' := []) (r := none) (M1 := M3) K (kX12_passWord l K.2.2.2.2.2.2.1 hy hc1) (jg_V jl_X12_135 jw_i_X12_passWord jw_s_X12_passWord jw_n_X12 jw_c_X12_passWord) rfl rfl rfl jd_X12_passWord ⟨Nat.le_of_ble_eq_true rfl, Nat.le_of_ble_eq_true rfl⟩ rfl rfl (Nat.le_of_ble_eq_true rfl) (by decide) (okc_1 hy) rfl dX12_kinded_1 rfl ?_
  refine v_aload_n (pc := 4) K dX12_kinded_4 0 rfl ?_
  obtain ⟨r5, M6, hc4, hF⟩ := q_bE hF
  refine v_callV (pc := 5) (ci := 11) (As := []) (rest := []) (st' := [.int r5]) (r := some (.int r5)) (M1 := M6) K (kX12_see l K.2.2.2.2.2.2.1 hy hc4) (jg_V jl_X12_124 jw_i_X12_see jw_s_X12_see jw_n_X12 jw_c_X12_see) rfl rfl rfl jd_X12_see ⟨Nat.le_of_ble_eq_true rfl, Nat.le_of_ble_eq_true rfl⟩ rfl rfl (Nat.le_of_ble_eq_true rfl) (by decide) (okc_1 hy) rfl dX12_kinded_5 rfl ?_
  refine v_pop (pc := 8) K dX12_kinded_8 rfl ?_
  refine v_aload_n (pc := 9) K dX12_kinded_9 0 rfl ?_
  refine gX12_next (pc := 10) K hy (by decide) jn_X12 (List.mem_cons_of_mem _ jl_X12_121) dX12_kinded_10 ?_
  refine v_istore_n (pc := 13) (lv' := [(2, .int (q_i M6 1000 14)), (0, .ref (ly_o y 1000)), (1, .int x1)]) K dX12_kinded_13 2 rfl (by decide) rfl ?_
  refine v_iload_n (pc := 14) K dX12_kinded_14 2 rfl ?_
  refine v_if_ne (pc := 15) (tgt := 25) K dX12_kinded_15 (by decide) hF (fun c13 hF => ?_) (fun c13 hF => ?_)
  · refine v_aload_n (pc := 25) K dX12_kinded_25 1 rfl ?_
    obtain ⟨r8, M9, hc7, hF⟩ := q_bE hF
    refine v_callV (pc := 26) (ci := 11) (As := []) (rest := []) (st' := [.int r8]) (r := some (.int r8)) (M1 := M9) K (kX12_meansHere l K.2.2.2.2.2.2.1 hy hc7) (jg_V jl_X12_249 jw_i_X12_meansHere jw_s_X12_meansHere jw_n_X12 jw_c_X12_meansHere) rfl rfl rfl jd_X12_meansHere ⟨Nat.le_of_ble_eq_true rfl, Nat.le_of_ble_eq_true rfl⟩ rfl rfl (Nat.le_of_ble_eq_true rfl) (by decide) (okc_1 hy) rfl dX12_kinded_26 rfl ?_
    refine v_sub [1, 2, 0] rfl ?_
    exact bX12_kinded_29 l K hy hQ hF
  · refine v_aload_n (pc := 18) K dX12_kinded_18 1 rfl ?_
    obtain ⟨r11, M12, hc10, hF⟩ := q_bE hF
    refine v_callV (pc := 19) (ci := 11) (As := []) (rest := []) (st' := [.int r11]) (r := some (.int r11)) (M1 := M12) K (kX12_kindHere l K.2.2.2.2.2.2.1 hy hc10) (jg_V jl_X12_246 jw_i_X12_kindHere jw_s_X12_kindHere jw_n_X12 jw_c_X12_kindHere) rfl rfl rfl jd_X12_kindHere ⟨Nat.le_of_ble_eq_true rfl, Nat.le_of_ble_eq_true rfl⟩ rfl rfl (Nat.le_of_ble_eq_true rfl) (by decide) (okc_1 hy) rfl dX12_kinded_19 rfl ?_
    refine v_goto (pc := 22) (tgt := 29) K dX12_kinded_22 (by decide) ?_
    refine v_sub [1, 2, 0] rfl ?_
    exact bX12_kinded_29 l K hy hQ hF
set_option maxRecDepth 100000 in
set_option maxHeartbeats 4000000 in
theorem kX12_kinded (l : Launch) {y : Ly} (hJ : ly_J y) (hy : y.2.2.2.2 = 1) {M M1 : QM} {r : Int32} {x1 : Int32} (hF : fX12_kinded M x1 = some (r, M1)) : Met l yX12_kinded wqX12_kinded rmX12_kinded (q_P y [.ref (ly_o y 1000), .int x1] M) (q_E y (some (.int r)) M1) 0 0 (ly_A y) :=
  q_met (by decide) rfl hJ rfl rfl rfl (fun x K hQ => bX12_kinded_0 l K hy (z := (r, M1)) hQ  hF)
-- ===== X12_sets ([IIII)Z
theorem jd_X12_sets : yX12_sets.cls = RX12 ∧ yX12_sets.cls ≠ "java/lang/invoke/MethodHandle" ∧ yX12_sets.cls ≠ "java/lang/invoke/VarHandle" ∧ (parseMethodDescriptor yX12_sets.desc).map (fun d => d.parameters.length) = some 4 := by decide +kernel
abbrev wqX12_sets : List Cond := .code yX12_sets cX12_sets 5 (some .boolean) :: wsL_law
abbrev rmX12_sets : Room := { frames := 2, cells := 0, slots := 0, locals := 49 }
def fX12_sets (M : QM) (j1 : Nat) (x2 : Int32) (x3 : Int32) (x4 : Int32) : Option (Int32 × QM) := (if q_in (q_i M 1000 17) 6 then if (q_a M 1000 j1 (q_i M 1000 17).toNatClampNeg) < (0 : Int32) then (q_bv (fX12_passWord M) fun M4 => (q_b (fX12_number M4 x2 x3) fun r6 M7 => if r6 ≠ (0 : Int32) then (if q_in (q_i M7 1000 17) 6 then (q_t (p_a M7 1000 j1 (q_i M7 1000 17).toNatClampNeg (q_i M7 1000 16)) fun M9 => some ((1 : Int32), M9)) else none) else some ((0 : Int32), M7))) else (q_b (fX12_fails M (4 : Int32) x4) fun r12 M13 => if q_z r12 then some (r12, M13) else none) else none)
set_option maxRecDepth 100000 in
set_option maxHeartbeats 4000000 in
theorem bX12_sets_0 {x : Cx} {y : Ly} (l : Launch) (K : VK x l rmX12_sets y 5 cX12_sets RX12 wqX12_sets) (hy : y.2.2.2.2 = 1) {z : Int32 × QM} (hQ : VQ x y (some (.int z.1)) z.2 (some .boolean)) {M : QM} {j1 : Nat} {x2 : Int32} {x3 : Int32} {x4 : Int32} (hj1_1 : j1 < nfl 11) (hj1_2 : fk 11 j1 = 1) (hj1_3 : ak 11 j1 = 0) (hj1_4 : al 11 j1 = 6) (hF : fX12_sets M j1 x2 x3 x4 = some z) : V x y 5 M 0 [(0, .ref (ly_o y 1000)), (1, .ref (ly_a y 1000 j1)), (2, .int x2), (3, .int x3), (4, .int x4)] [] := by
  unfold fX12_sets at hF
  refine v_aload_n (pc := 0) K dX12_sets_0 1 rfl ?_
  refine v_aload_n (pc := 1) K dX12_sets_1 0 rfl ?_
  refine gX12_text (pc := 2) K hy (by decide) jn_X12 (List.mem_cons_of_mem _ jl_X12_183) dX12_sets_2 ?_
  refine v_iald (pc := 5) (o := 1000) (c := 11) K 6 hF (by decide) (okc_1 hy) hj1_1 hj1_2 hj1_3 hj1_4 dX12_sets_5 (fun hi1 hF => ?_)
  refine v_if_lt (pc := 6) (tgt := 17) K dX12_sets_6 (by decide) hF (fun c15 hF => ?_) (fun c15 hF => ?_)
  · refine v_aload_n (pc := 17) K dX12_sets_17 0 rfl ?_
    obtain ⟨M4, hc2, hF⟩ := q_bvE hF
    refine v_callV (pc := 18) (ci := 11) (As := []) (rest := []) (st' := []) (r := none) (M1 := M4) K (kX12_passWord l K.2.2.2.2.2.2.1 hy hc2) (jg_V jl_X12_135 jw_i_X12_passWord jw_s_X12_passWord jw_n_X12 jw_c_X12_passWord) rfl rfl rfl jd_X12_passWord ⟨Nat.le_of_ble_eq_true rfl, Nat.le_of_ble_eq_true rfl⟩ rfl rfl (Nat.le_of_ble_eq_true rfl) (by decide) (okc_1 hy) rfl dX12_sets_18 rfl ?_
    refine v_aload_n (pc := 21) K dX12_sets_21 0 rfl ?_
    refine v_iload_n (pc := 22) K dX12_sets_22 2 rfl ?_
    refine v_iload_n (pc := 23) K dX12_sets_23 3 rfl ?_
    obtain ⟨r6, M7, hc5, hF⟩ := q_bE hF
    refine v_callV (pc := 24) (ci := 11) (As := [.int x2, .int x3]) (rest := []) (st' := [.int r6]) (r := some (.int r6)) (M1 := M7) K (kX12_number l K.2.2.2.2.2.2.1 hy hc5) (jg_V jl_X12_189 jw_i_X12_number jw_s_X12_number jw_n_X12 jw_c_X12_number) rfl rfl rfl jd_X12_number ⟨Nat.le_of_ble_eq_true rfl, Nat.le_of_ble_eq_true rfl⟩ rfl rfl (Nat.le_of_ble_eq_true rfl) (by decide) (okc_1 hy) rfl dX12_sets_24 rfl ?_
    refine v_if_ne (pc := 27) (tgt := 32) K dX12_sets_27 (by decide) hF (fun c10 hF => ?_) (fun c10 hF => ?_)
    · refine v_aload_n (pc := 32) K dX12_sets_32 1 rfl ?_
      refine v_aload_n (pc := 33) K dX12_sets_33 0 rfl ?_
      refine gX12_text (pc := 34) K hy (by decide) jn_X12 (List.mem_cons_of_mem _ jl_X12_183) dX12_sets_34 ?_
      refine v_aload_n (pc := 37) K dX12_sets_37 0 rfl ?_
      refine gX12_said (pc := 38) K hy (by decide) jn_X12 (List.mem_cons_of_mem _ jl_X12_144) dX12_sets_38 ?_
      refine v_iast (pc := 41) (o := 1000) (c := 11) K 6 hF (by decide) (okc_1 hy) hj1_1 hj1_2 hj1_3 hj1_4 dX12_sets_41 (fun hi8 hF => ?_)
      refine v_nmM hF (fun M9 hF => ?_)
      refine v_iconst (pc := 42) (v := 1) K dX12_sets_42 rfl ?_
      have hz := (Option.some.inj hF).symm
      subst hz
      exact v_zret (pc := 43) K hQ rfl dX12_sets_43
    · refine v_iconst (pc := 30) (v := 0) K dX12_sets_30 rfl ?_
      have hz := (Option.some.inj hF).symm
      subst hz
      exact v_zret (pc := 31) K hQ rfl dX12_sets_31
  · refine v_aload_n (pc := 9) K dX12_sets_9 0 rfl ?_
    refine v_iconst (pc := 10) (v := 4) K dX12_sets_10 rfl ?_
    refine v_iload (pc := 11) K dX12_sets_11 4 rfl ?_
    obtain ⟨r12, M13, hc11, hF⟩ := q_bE hF
    refine v_callV (pc := 13) (ci := 11) (As := [.int (4 : Int32), .int x4]) (rest := []) (st' := [.int r12]) (r := some (.int r12)) (M1 := M13) K (kX12_fails l K.2.2.2.2.2.2.1 hy hc11) (jg_V jl_X12_141 jw_i_X12_fails jw_s_X12_fails jw_n_X12 jw_c_X12_fails) rfl rfl rfl jd_X12_fails ⟨Nat.le_of_ble_eq_true rfl, Nat.le_of_ble_eq_true rfl⟩ rfl rfl (Nat.le_of_ble_eq_true rfl) (by decide) (okc_1 hy) rfl dX12_sets_13 rfl ?_
    obtain ⟨hz14, hF⟩ := q_kE hF
    have hz := (Option.some.inj hF).symm
    subst hz
    exact v_zret (pc := 16) K hQ (q_zn hz14) dX12_sets_16
set_option maxRecDepth 100000 in
set_option maxHeartbeats 4000000 in
theorem kX12_sets (l : Launch) {y : Ly} (hJ : ly_J y) (hy : y.2.2.2.2 = 1) {M M1 : QM} {r : Int32} {j1 : Nat} {x2 : Int32} {x3 : Int32} {x4 : Int32} (hj1_1 : j1 < nfl 11) (hj1_2 : fk 11 j1 = 1) (hj1_3 : ak 11 j1 = 0) (hj1_4 : al 11 j1 = 6) (hF : fX12_sets M j1 x2 x3 x4 = some (r, M1)) : Met l yX12_sets wqX12_sets rmX12_sets (q_P y [.ref (ly_o y 1000), .ref (ly_a y 1000 j1), .int x2, .int x3, .int x4] M) (q_E y (some (.int r)) M1) 0 0 (ly_A y) :=
  q_met (by decide) rfl hJ rfl rfl rfl (fun x K hQ => bX12_sets_0 l K hy (z := (r, M1)) hQ hj1_1 hj1_2 hj1_3 hj1_4 hF)
-- ===== X12_clauseHere ()Z
theorem jd_X12_clauseHere : yX12_clauseHere.cls = RX12 ∧ yX12_clauseHere.cls ≠ "java/lang/invoke/MethodHandle" ∧ yX12_clauseHere.cls ≠ "java/lang/invoke/VarHandle" ∧ (parseMethodDescriptor yX12_clauseHere.desc).map (fun d => d.parameters.length) = some 0 := by decide +kernel
abbrev wqX12_clauseHere : List Cond := .code yX12_clauseHere cX12_clauseHere 3 (some .boolean) :: wsL_law
abbrev rmX12_clauseHere : Room := { frames := 10, cells := 0, slots := 0, locals := 226 }
def fX12_clauseHere_b75 (M : QM) (x1 : Int32) (s0 : Int32) : Option (Int32 × QM) := if s0 ≠ (0 : Int32) then (if q_in (q_i M 1000 17) 6 then if (q_a M 1000 10 (q_i M 1000 17).toNatClampNeg) ≠ (14 : Int32) then (if q_in (q_i M 1000 17) 6 then (if q_in (q_i M 1000 17) 6 then (q_t (p_a M 1000 10 (q_i M 1000 17).toNatClampNeg ((q_a M 1000 10 (q_i M 1000 17).toNatClampNeg) + (1 : Int32))) fun M31 => (q_b (fX12_isWord M31 (126909462046836 : Int64)) fun r33 M34 => if r33 = (0 : Int32) then (q_b (fX12_isWord M34 (1650549611 : Int64)) fun r36 M37 => if r36 = (0 : Int32) then (q_b (fX12_isWord M37 (6386539 : Int64)) fun r39 M40 => if r39 = (0 : Int32) then (q_b (fX12_isWord M40 (448546566771 : Int64)) fun r42 M43 => if r42 = (0 : Int32) then (q_b (fX12_isWord M43 (1836413812 : Int64)) fun r45 M46 => if r45 = (0 : Int32) then (q_bv (fX12_passWord M46) fun M49 => (q_b (fX12_weighed M49 (2 : Int32) (0 : Int32) (0 : Int32) (1 : Int32)) fun r51 M52 => if q_z r51 then some (r51, M52) else none)) else (q_b (fX12_sets M46 13 (0 : Int32) (15 : Int32) x1) fun r55 M56 => if q_z r55 then some (r55, M56) else none)) else (q_b (fX12_sets M43 12 (1 : Int32) (8 : Int32) x1) fun r60 M61 => if q_z r60 then some (r60, M61) else none)) else (q_b (fX12_sets M40 11 (0 : Int32) (15 : Int32) x1) fun r65 M66 => if q_z r65 then some (r65, M66) else none)) else (q_b (fX12_kinded M37 (1 : Int32)) fun r70 M71 => if q_z r70 then some (r70, M71) else none)) else (q_b (fX12_kinded M34 (0 : Int32)) fun r75 M76 => if q_z r75 then some (r75, M76) else none))) else none) else none) else (q_b (fX12_fails M (4 : Int32) x1) fun r80 M81 => if q_z r80 then some (r80, M81) else none) else none) else (q_b (fX12_fails M (0 : Int32) x1) fun r85 M86 => if q_z r85 then some (r85, M86) else none)
set_option maxRecDepth 100000 in
set_option maxHeartbeats 4000000 in
theorem bX12_clauseHere_75 {x : Cx} {y : Ly} (l : Launch) (K : VK x l rmX12_clauseHere y 3 cX12_clauseHere RX12 wqX12_clauseHere) (hy : y.2.2.2.2 = 1) {z : Int32 × QM} (hQ : VQ x y (some (.int z.1)) z.2 (some .boolean)) {M : QM} {x1 : Int32} {s0 : Int32} (hF : fX12_clauseHere_b75 M x1 s0 = some z) : V x y 3 M 75 [(0, .ref (ly_o y 1000)), (1, .int x1)] [.int s0] := by
  unfold fX12_clauseHere_b75 at hF
  refine v_istore_n (pc := 75) (lv' := [(2, .int s0), (0, .ref (ly_o y 1000)), (1, .int x1)]) K dX12_clauseHere_75 2 rfl (by decide) rfl ?_
  refine v_iload_n (pc := 76) K dX12_clauseHere_76 0 rfl ?_
  refine v_if_ne (pc := 77) (tgt := 87) K dX12_clauseHere_77 (by decide) hF (fun c88 hF => ?_) (fun c88 hF => ?_)
  · refine v_aload_n (pc := 87) K dX12_clauseHere_87 1 rfl ?_
    refine gX12_all (pc := 88) K hy (by decide) jn_X12 (List.mem_cons_of_mem _ jl_X12_32) dX12_clauseHere_88 ?_
    refine v_aload_n (pc := 91) K dX12_clauseHere_91 1 rfl ?_
    refine gX12_text (pc := 92) K hy (by decide) jn_X12 (List.mem_cons_of_mem _ jl_X12_183) dX12_clauseHere_92 ?_
    refine iX12_all (pc := 95) K hy (by decide) hF dX12_clauseHere_95 (fun hi28 hF => ?_)
    refine v_bipush (pc := 96) (v := 14) K dX12_clauseHere_96 rfl ?_
    refine v_icmp_ne (pc := 98) (tgt := 108) K dX12_clauseHere_98 (by decide) hF (fun c83 hF => ?_) (fun c83 hF => ?_)
    · refine v_aload_n (pc := 108) K dX12_clauseHere_108 1 rfl ?_
      refine gX12_all (pc := 109) K hy (by decide) jn_X12 (List.mem_cons_of_mem _ jl_X12_32) dX12_clauseHere_109 ?_
      refine v_aload_n (pc := 112) K dX12_clauseHere_112 1 rfl ?_
      refine gX12_text (pc := 113) K hy (by decide) jn_X12 (List.mem_cons_of_mem _ jl_X12_183) dX12_clauseHere_113 ?_
      refine v_dup2 (pc := 116) K dX12_clauseHere_116 rfl rfl ?_
      refine iX12_all (pc := 117) K hy (by decide) hF dX12_clauseHere_117 (fun hi29 hF => ?_)
      refine v_iconst (pc := 118) (v := 1) K dX12_clauseHere_118 rfl ?_
      refine v_iadd (pc := 119) K dX12_clauseHere_119 ?_
      refine uX12_all (pc := 120) K hy (by decide) hF dX12_clauseHere_120 (fun hi30 hF => ?_)
      refine v_nmM hF (fun M31 hF => ?_)
      refine v_aload_n (pc := 121) K dX12_clauseHere_121 1 rfl ?_
      refine v_ldc2 (pc := 122) (v := 126909462046836) K dX12_clauseHere_122 (List.mem_cons_of_mem _ jl_X12_261) ?_
      obtain ⟨r33, M34, hc32, hF⟩ := q_bE hF
      refine v_callV (pc := 125) (ci := 11) (As := [.long (126909462046836 : Int64)]) (rest := []) (st' := [.int r33]) (r := some (.int r33)) (M1 := M34) K (kX12_isWord l K.2.2.2.2.2.2.1 hy hc32) (jg_V jl_X12_131 jw_i_X12_isWord jw_s_X12_isWord jw_n_X12 jw_c_X12_isWord) rfl rfl rfl jd_X12_isWord ⟨Nat.le_of_ble_eq_true rfl, Nat.le_of_ble_eq_true rfl⟩ rfl rfl (Nat.le_of_ble_eq_true rfl) (by decide) (okc_1 hy) rfl dX12_clauseHere_125 rfl ?_
      refine v_if_eq (pc := 128) (tgt := 137) K dX12_clauseHere_128 (by decide) hF (fun c78 hF => ?_) (fun c78 hF => ?_)
      · refine v_aload_n (pc := 137) K dX12_clauseHere_137 1 rfl ?_
        refine v_ldc2 (pc := 138) (v := 1650549611) K dX12_clauseHere_138 (List.mem_cons_of_mem _ jl_X12_263) ?_
        obtain ⟨r36, M37, hc35, hF⟩ := q_bE hF
        refine v_callV (pc := 141) (ci := 11) (As := [.long (1650549611 : Int64)]) (rest := []) (st' := [.int r36]) (r := some (.int r36)) (M1 := M37) K (kX12_isWord l K.2.2.2.2.2.2.1 hy hc35) (jg_V jl_X12_131 jw_i_X12_isWord jw_s_X12_isWord jw_n_X12 jw_c_X12_isWord) rfl rfl rfl jd_X12_isWord ⟨Nat.le_of_ble_eq_true rfl, Nat.le_of_ble_eq_true rfl⟩ rfl rfl (Nat.le_of_ble_eq_true rfl) (by decide) (okc_1 hy) rfl dX12_clauseHere_141 rfl ?_
        refine v_if_eq (pc := 144) (tgt := 153) K dX12_clauseHere_144 (by decide) hF (fun c73 hF => ?_) (fun c73 hF => ?_)
        · refine v_aload_n (pc := 153) K dX12_clauseHere_153 1 rfl ?_
          refine v_ldc2 (pc := 154) (v := 6386539) K dX12_clauseHere_154 (List.mem_cons_of_mem _ jl_X12_267) ?_
          obtain ⟨r39, M40, hc38, hF⟩ := q_bE hF
          refine v_callV (pc := 157) (ci := 11) (As := [.long (6386539 : Int64)]) (rest := []) (st' := [.int r39]) (r := some (.int r39)) (M1 := M40) K (kX12_isWord l K.2.2.2.2.2.2.1 hy hc38) (jg_V jl_X12_131 jw_i_X12_isWord jw_s_X12_isWord jw_n_X12 jw_c_X12_isWord) rfl rfl rfl jd_X12_isWord ⟨Nat.le_of_ble_eq_true rfl, Nat.le_of_ble_eq_true rfl⟩ rfl rfl (Nat.le_of_ble_eq_true rfl) (by decide) (okc_1 hy) rfl dX12_clauseHere_157 rfl ?_
          refine v_if_eq (pc := 160) (tgt := 176) K dX12_clauseHere_160 (by decide) hF (fun c68 hF => ?_) (fun c68 hF => ?_)
          · refine v_aload_n (pc := 176) K dX12_clauseHere_176 1 rfl ?_
            refine v_ldc2 (pc := 177) (v := 448546566771) K dX12_clauseHere_177 (List.mem_cons_of_mem _ jl_X12_269) ?_
            obtain ⟨r42, M43, hc41, hF⟩ := q_bE hF
            refine v_callV (pc := 180) (ci := 11) (As := [.long (448546566771 : Int64)]) (rest := []) (st' := [.int r42]) (r := some (.int r42)) (M1 := M43) K (kX12_isWord l K.2.2.2.2.2.2.1 hy hc41) (jg_V jl_X12_131 jw_i_X12_isWord jw_s_X12_isWord jw_n_X12 jw_c_X12_isWord) rfl rfl rfl jd_X12_isWord ⟨Nat.le_of_ble_eq_true rfl, Nat.le_of_ble_eq_true rfl⟩ rfl rfl (Nat.le_of_ble_eq_true rfl) (by decide) (okc_1 hy) rfl dX12_clauseHere_180 rfl ?_
            refine v_if_eq (pc := 183) (tgt := 199) K dX12_clauseHere_183 (by decide) hF (fun c63 hF => ?_) (fun c63 hF => ?_)
            · refine v_aload_n (pc := 199) K dX12_clauseHere_199 1 rfl ?_
              refine v_ldc2 (pc := 200) (v := 1836413812) K dX12_clauseHere_200 (List.mem_cons_of_mem _ jl_X12_271) ?_
              obtain ⟨r45, M46, hc44, hF⟩ := q_bE hF
              refine v_callV (pc := 203) (ci := 11) (As := [.long (1836413812 : Int64)]) (rest := []) (st' := [.int r45]) (r := some (.int r45)) (M1 := M46) K (kX12_isWord l K.2.2.2.2.2.2.1 hy hc44) (jg_V jl_X12_131 jw_i_X12_isWord jw_s_X12_isWord jw_n_X12 jw_c_X12_isWord) rfl rfl rfl jd_X12_isWord ⟨Nat.le_of_ble_eq_true rfl, Nat.le_of_ble_eq_true rfl⟩ rfl rfl (Nat.le_of_ble_eq_true rfl) (by decide) (okc_1 hy) rfl dX12_clauseHere_203 rfl ?_
              refine v_if_eq (pc := 206) (tgt := 222) K dX12_clauseHere_206 (by decide) hF (fun c58 hF => ?_) (fun c58 hF => ?_)
              · refine v_aload_n (pc := 222) K dX12_clauseHere_222 1 rfl ?_
                obtain ⟨M49, hc47, hF⟩ := q_bvE hF
                refine v_callV (pc := 223) (ci := 11) (As := []) (rest := []) (st' := []) (r := none) (M1 := M49) K (kX12_passWord l K.2.2.2.2.2.2.1 hy hc47) (jg_V jl_X12_135 jw_i_X12_passWord jw_s_X12_passWord jw_n_X12 jw_c_X12_passWord) rfl rfl rfl jd_X12_passWord ⟨Nat.le_of_ble_eq_true rfl, Nat.le_of_ble_eq_true rfl⟩ rfl rfl (Nat.le_of_ble_eq_true rfl) (by decide) (okc_1 hy) rfl dX12_clauseHere_223 rfl ?_
                refine v_aload_n (pc := 226) K dX12_clauseHere_226 1 rfl ?_
                refine v_iconst (pc := 227) (v := 2) K dX12_clauseHere_227 rfl ?_
                refine v_iconst (pc := 228) (v := 0) K dX12_clauseHere_228 rfl ?_
                refine v_iconst (pc := 229) (v := 0) K dX12_clauseHere_229 rfl ?_
                refine v_iconst (pc := 230) (v := 1) K dX12_clauseHere_230 rfl ?_
                obtain ⟨r51, M52, hc50, hF⟩ := q_bE hF
                refine v_callV (pc := 231) (ci := 11) (As := [.int (2 : Int32), .int (0 : Int32), .int (0 : Int32), .int (1 : Int32)]) (rest := []) (st' := [.int r51]) (r := some (.int r51)) (M1 := M52) K (kX12_weighed l K.2.2.2.2.2.2.1 hy hc50) (jg_V jl_X12_257 jw_i_X12_weighed jw_s_X12_weighed jw_n_X12 jw_c_X12_weighed) rfl rfl rfl jd_X12_weighed ⟨Nat.le_of_ble_eq_true rfl, Nat.le_of_ble_eq_true rfl⟩ rfl rfl (Nat.le_of_ble_eq_true rfl) (by decide) (okc_1 hy) rfl dX12_clauseHere_231 rfl ?_
                obtain ⟨hz53, hF⟩ := q_kE hF
                have hz := (Option.some.inj hF).symm
                subst hz
                exact v_zret (pc := 234) K hQ (q_zn hz53) dX12_clauseHere_234
              · refine v_aload_n (pc := 209) K dX12_clauseHere_209 1 rfl ?_
                refine v_aload_n (pc := 210) K dX12_clauseHere_210 1 rfl ?_
                refine gX12_must (pc := 211) K hy (by decide) jn_X12 (List.mem_cons_of_mem _ jl_X12_41) dX12_clauseHere_211 ?_
                refine v_iconst (pc := 214) (v := 0) K dX12_clauseHere_214 rfl ?_
                refine v_bipush (pc := 215) (v := 15) K dX12_clauseHere_215 rfl ?_
                refine v_iload_n (pc := 217) K dX12_clauseHere_217 2 rfl ?_
                obtain ⟨r55, M56, hc54, hF⟩ := q_bE hF
                refine v_callV (pc := 218) (ci := 11) (As := [.ref (ly_a y 1000 13), .int (0 : Int32), .int (15 : Int32), .int x1]) (rest := []) (st' := [.int r55]) (r := some (.int r55)) (M1 := M56) K (kX12_sets l K.2.2.2.2.2.2.1 hy (by decide) (by decide) (by decide) (by decide) hc54) (jg_V jl_X12_276 jw_i_X12_sets jw_s_X12_sets jw_n_X12 jw_c_X12_sets) rfl rfl rfl jd_X12_sets ⟨Nat.le_of_ble_eq_true rfl, Nat.le_of_ble_eq_true rfl⟩ rfl rfl (Nat.le_of_ble_eq_true rfl) (by decide) (okc_1 hy) rfl dX12_clauseHere_218 rfl ?_
                obtain ⟨hz57, hF⟩ := q_kE hF
                have hz := (Option.some.inj hF).symm
                subst hz
                exact v_zret (pc := 221) K hQ (q_zn hz57) dX12_clauseHere_221
            · refine v_aload_n (pc := 186) K dX12_clauseHere_186 1 rfl ?_
              refine v_aload_n (pc := 187) K dX12_clauseHere_187 1 rfl ?_
              refine gX12_hours (pc := 188) K hy (by decide) jn_X12 (List.mem_cons_of_mem _ jl_X12_38) dX12_clauseHere_188 ?_
              refine v_iconst (pc := 191) (v := 1) K dX12_clauseHere_191 rfl ?_
              refine v_bipush (pc := 192) (v := 8) K dX12_clauseHere_192 rfl ?_
              refine v_iload_n (pc := 194) K dX12_clauseHere_194 2 rfl ?_
              obtain ⟨r60, M61, hc59, hF⟩ := q_bE hF
              refine v_callV (pc := 195) (ci := 11) (As := [.ref (ly_a y 1000 12), .int (1 : Int32), .int (8 : Int32), .int x1]) (rest := []) (st' := [.int r60]) (r := some (.int r60)) (M1 := M61) K (kX12_sets l K.2.2.2.2.2.2.1 hy (by decide) (by decide) (by decide) (by decide) hc59) (jg_V jl_X12_276 jw_i_X12_sets jw_s_X12_sets jw_n_X12 jw_c_X12_sets) rfl rfl rfl jd_X12_sets ⟨Nat.le_of_ble_eq_true rfl, Nat.le_of_ble_eq_true rfl⟩ rfl rfl (Nat.le_of_ble_eq_true rfl) (by decide) (okc_1 hy) rfl dX12_clauseHere_195 rfl ?_
              obtain ⟨hz62, hF⟩ := q_kE hF
              have hz := (Option.some.inj hF).symm
              subst hz
              exact v_zret (pc := 198) K hQ (q_zn hz62) dX12_clauseHere_198
          · refine v_aload_n (pc := 163) K dX12_clauseHere_163 1 rfl ?_
            refine v_aload_n (pc := 164) K dX12_clauseHere_164 1 rfl ?_
            refine gX12_ask (pc := 165) K hy (by decide) jn_X12 (List.mem_cons_of_mem _ jl_X12_35) dX12_clauseHere_165 ?_
            refine v_iconst (pc := 168) (v := 0) K dX12_clauseHere_168 rfl ?_
            refine v_bipush (pc := 169) (v := 15) K dX12_clauseHere_169 rfl ?_
            refine v_iload_n (pc := 171) K dX12_clauseHere_171 2 rfl ?_
            obtain ⟨r65, M66, hc64, hF⟩ := q_bE hF
            refine v_callV (pc := 172) (ci := 11) (As := [.ref (ly_a y 1000 11), .int (0 : Int32), .int (15 : Int32), .int x1]) (rest := []) (st' := [.int r65]) (r := some (.int r65)) (M1 := M66) K (kX12_sets l K.2.2.2.2.2.2.1 hy (by decide) (by decide) (by decide) (by decide) hc64) (jg_V jl_X12_276 jw_i_X12_sets jw_s_X12_sets jw_n_X12 jw_c_X12_sets) rfl rfl rfl jd_X12_sets ⟨Nat.le_of_ble_eq_true rfl, Nat.le_of_ble_eq_true rfl⟩ rfl rfl (Nat.le_of_ble_eq_true rfl) (by decide) (okc_1 hy) rfl dX12_clauseHere_172 rfl ?_
            obtain ⟨hz67, hF⟩ := q_kE hF
            have hz := (Option.some.inj hF).symm
            subst hz
            exact v_zret (pc := 175) K hQ (q_zn hz67) dX12_clauseHere_175
        · refine v_aload_n (pc := 147) K dX12_clauseHere_147 1 rfl ?_
          refine v_iconst (pc := 148) (v := 1) K dX12_clauseHere_148 rfl ?_
          obtain ⟨r70, M71, hc69, hF⟩ := q_bE hF
          refine v_callV (pc := 149) (ci := 11) (As := [.int (1 : Int32)]) (rest := []) (st' := [.int r70]) (r := some (.int r70)) (M1 := M71) K (kX12_kinded l K.2.2.2.2.2.2.1 hy hc69) (jg_V jl_X12_273 jw_i_X12_kinded jw_s_X12_kinded jw_n_X12 jw_c_X12_kinded) rfl rfl rfl jd_X12_kinded ⟨Nat.le_of_ble_eq_true rfl, Nat.le_of_ble_eq_true rfl⟩ rfl rfl (Nat.le_of_ble_eq_true rfl) (by decide) (okc_1 hy) rfl dX12_clauseHere_149 rfl ?_
          obtain ⟨hz72, hF⟩ := q_kE hF
          have hz := (Option.some.inj hF).symm
          subst hz
          exact v_zret (pc := 152) K hQ (q_zn hz72) dX12_clauseHere_152
      · refine v_aload_n (pc := 131) K dX12_clauseHere_131 1 rfl ?_
        refine v_iconst (pc := 132) (v := 0) K dX12_clauseHere_132 rfl ?_
        obtain ⟨r75, M76, hc74, hF⟩ := q_bE hF
        refine v_callV (pc := 133) (ci := 11) (As := [.int (0 : Int32)]) (rest := []) (st' := [.int r75]) (r := some (.int r75)) (M1 := M76) K (kX12_kinded l K.2.2.2.2.2.2.1 hy hc74) (jg_V jl_X12_273 jw_i_X12_kinded jw_s_X12_kinded jw_n_X12 jw_c_X12_kinded) rfl rfl rfl jd_X12_kinded ⟨Nat.le_of_ble_eq_true rfl, Nat.le_of_ble_eq_true rfl⟩ rfl rfl (Nat.le_of_ble_eq_true rfl) (by decide) (okc_1 hy) rfl dX12_clauseHere_133 rfl ?_
        obtain ⟨hz77, hF⟩ := q_kE hF
        have hz := (Option.some.inj hF).symm
        subst hz
        exact v_zret (pc := 136) K hQ (q_zn hz77) dX12_clauseHere_136
    · refine v_aload_n (pc := 101) K dX12_clauseHere_101 1 rfl ?_
      refine v_iconst (pc := 102) (v := 4) K dX12_clauseHere_102 rfl ?_
      refine v_iload_n (pc := 103) K dX12_clauseHere_103 2 rfl ?_
      obtain ⟨r80, M81, hc79, hF⟩ := q_bE hF
      refine v_callV (pc := 104) (ci := 11) (As := [.int (4 : Int32), .int x1]) (rest := []) (st' := [.int r80]) (r := some (.int r80)) (M1 := M81) K (kX12_fails l K.2.2.2.2.2.2.1 hy hc79) (jg_V jl_X12_141 jw_i_X12_fails jw_s_X12_fails jw_n_X12 jw_c_X12_fails) rfl rfl rfl jd_X12_fails ⟨Nat.le_of_ble_eq_true rfl, Nat.le_of_ble_eq_true rfl⟩ rfl rfl (Nat.le_of_ble_eq_true rfl) (by decide) (okc_1 hy) rfl dX12_clauseHere_104 rfl ?_
      obtain ⟨hz82, hF⟩ := q_kE hF
      have hz := (Option.some.inj hF).symm
      subst hz
      exact v_zret (pc := 107) K hQ (q_zn hz82) dX12_clauseHere_107
  · refine v_aload_n (pc := 80) K dX12_clauseHere_80 1 rfl ?_
    refine v_iconst (pc := 81) (v := 0) K dX12_clauseHere_81 rfl ?_
    refine v_iload_n (pc := 82) K dX12_clauseHere_82 2 rfl ?_
    obtain ⟨r85, M86, hc84, hF⟩ := q_bE hF
    refine v_callV (pc := 83) (ci := 11) (As := [.int (0 : Int32), .int x1]) (rest := []) (st' := [.int r85]) (r := some (.int r85)) (M1 := M86) K (kX12_fails l K.2.2.2.2.2.2.1 hy hc84) (jg_V jl_X12_141 jw_i_X12_fails jw_s_X12_fails jw_n_X12 jw_c_X12_fails) rfl rfl rfl jd_X12_fails ⟨Nat.le_of_ble_eq_true rfl, Nat.le_of_ble_eq_true rfl⟩ rfl rfl (Nat.le_of_ble_eq_true rfl) (by decide) (okc_1 hy) rfl dX12_clauseHere_83 rfl ?_
    obtain ⟨hz87, hF⟩ := q_kE hF
    have hz := (Option.some.inj hF).symm
    subst hz
    exact v_zret (pc := 86) K hQ (q_zn hz87) dX12_clauseHere_86
def fX12_clauseHere_b70 (M : QM) (x1 : Int32) : Option (Int32 × QM) := (fX12_clauseHere_b75 M x1 (1 : Int32))
set_option maxRecDepth 100000 in
set_option maxHeartbeats 4000000 in
theorem bX12_clauseHere_70 {x : Cx} {y : Ly} (l : Launch) (K : VK x l rmX12_clauseHere y 3 cX12_clauseHere RX12 wqX12_clauseHere) (hy : y.2.2.2.2 = 1) {z : Int32 × QM} (hQ : VQ x y (some (.int z.1)) z.2 (some .boolean)) {M : QM} {x1 : Int32} (hF : fX12_clauseHere_b70 M x1 = some z) : V x y 3 M 70 [(0, .ref (ly_o y 1000)), (1, .int x1)] [] := by
  unfold fX12_clauseHere_b70 at hF
  refine v_iconst (pc := 70) (v := 1) K dX12_clauseHere_70 rfl ?_
  refine v_goto (pc := 71) (tgt := 75) K dX12_clauseHere_71 (by decide) ?_
  exact bX12_clauseHere_75 l K hy hQ hF
def fX12_clauseHere (M : QM) : Option (Int32 × QM) := (q_b (fX12_see M) fun r2 M3 => (q_b (fX12_isWord M3 (126909462046836 : Int64)) fun r5 M6 => if r5 ≠ (0 : Int32) then (fX12_clauseHere_b70 M6 (q_i M3 1000 14)) else (q_b (fX12_isWord M6 (1650549611 : Int64)) fun r8 M9 => if r8 ≠ (0 : Int32) then (fX12_clauseHere_b70 M9 (q_i M3 1000 14)) else (q_b (fX12_isWord M9 (125779836236645 : Int64)) fun r11 M12 => if r11 ≠ (0 : Int32) then (fX12_clauseHere_b70 M12 (q_i M3 1000 14)) else (q_b (fX12_isWord M12 (6386539 : Int64)) fun r14 M15 => if r14 ≠ (0 : Int32) then (fX12_clauseHere_b70 M15 (q_i M3 1000 14)) else (q_b (fX12_isWord M15 (448546566771 : Int64)) fun r17 M18 => if r17 ≠ (0 : Int32) then (fX12_clauseHere_b70 M18 (q_i M3 1000 14)) else (q_b (fX12_isWord M18 (1836413812 : Int64)) fun r20 M21 => if r20 = (0 : Int32) then (fX12_clauseHere_b75 M21 (q_i M3 1000 14) (0 : Int32)) else (fX12_clauseHere_b70 M21 (q_i M3 1000 14)))))))))
set_option maxRecDepth 100000 in
set_option maxHeartbeats 4000000 in
theorem bX12_clauseHere_0 {x : Cx} {y : Ly} (l : Launch) (K : VK x l rmX12_clauseHere y 3 cX12_clauseHere RX12 wqX12_clauseHere) (hy : y.2.2.2.2 = 1) {z : Int32 × QM} (hQ : VQ x y (some (.int z.1)) z.2 (some .boolean)) {M : QM} (hF : fX12_clauseHere M  = some z) : V x y 3 M 0 [(0, .ref (ly_o y 1000))] [] := by
  unfold fX12_clauseHere at hF
  refine v_aload_n (pc := 0) K dX12_clauseHere_0 0 rfl ?_
  obtain ⟨r2, M3, hc1, hF⟩ := q_bE hF
  refine v_callV (pc := 1) (ci := 11) (As := []) (rest := []) (st' := [.int r2]) (r := some (.int r2)) (M1 := M3) K (kX12_see l K.2.2.2.2.2.2.1 hy hc1) (jg_V jl_X12_124 jw_i_X12_see jw_s_X12_see jw_n_X12 jw_c_X12_see) rfl rfl rfl jd_X12_see ⟨Nat.le_of_ble_eq_true rfl, Nat.le_of_ble_eq_true rfl⟩ rfl rfl (Nat.le_of_ble_eq_true rfl) (by decide) (okc_1 hy) rfl dX12_clauseHere_1 rfl ?_
  refine v_pop (pc := 4) K dX12_clauseHere_4 rfl ?_
  refine v_aload_n (pc := 5) K dX12_clauseHere_5 0 rfl ?_
  refine gX12_next (pc := 6) K hy (by decide) jn_X12 (List.mem_cons_of_mem _ jl_X12_121) dX12_clauseHere_6 ?_
  refine v_istore_n (pc := 9) (lv' := [(1, .int (q_i M3 1000 14)), (0, .ref (ly_o y 1000))]) K dX12_clauseHere_9 1 rfl (by decide) rfl ?_
  refine v_aload_n (pc := 10) K dX12_clauseHere_10 1 rfl ?_
  refine v_ldc2 (pc := 11) (v := 126909462046836) K dX12_clauseHere_11 (List.mem_cons_of_mem _ jl_X12_261) ?_
  obtain ⟨r5, M6, hc4, hF⟩ := q_bE hF
  refine v_callV (pc := 14) (ci := 11) (As := [.long (126909462046836 : Int64)]) (rest := []) (st' := [.int r5]) (r := some (.int r5)) (M1 := M6) K (kX12_isWord l K.2.2.2.2.2.2.1 hy hc4) (jg_V jl_X12_131 jw_i_X12_isWord jw_s_X12_isWord jw_n_X12 jw_c_X12_isWord) rfl rfl rfl jd_X12_isWord ⟨Nat.le_of_ble_eq_true rfl, Nat.le_of_ble_eq_true rfl⟩ rfl rfl (Nat.le_of_ble_eq_true rfl) (by decide) (okc_1 hy) rfl dX12_clauseHere_14 rfl ?_
  refine v_if_ne (pc := 17) (tgt := 70) K dX12_clauseHere_17 (by decide) hF (fun c27 hF => ?_) (fun c27 hF => ?_)
  · refine v_sub [1, 0] rfl ?_
    exact bX12_clauseHere_70 l K hy hQ hF
  · refine v_aload_n (pc := 20) K dX12_clauseHere_20 1 rfl ?_
    refine v_ldc2 (pc := 21) (v := 1650549611) K dX12_clauseHere_21 (List.mem_cons_of_mem _ jl_X12_263) ?_
    obtain ⟨r8, M9, hc7, hF⟩ := q_bE hF
    refine v_callV (pc := 24) (ci := 11) (As := [.long (1650549611 : Int64)]) (rest := []) (st' := [.int r8]) (r := some (.int r8)) (M1 := M9) K (kX12_isWord l K.2.2.2.2.2.2.1 hy hc7) (jg_V jl_X12_131 jw_i_X12_isWord jw_s_X12_isWord jw_n_X12 jw_c_X12_isWord) rfl rfl rfl jd_X12_isWord ⟨Nat.le_of_ble_eq_true rfl, Nat.le_of_ble_eq_true rfl⟩ rfl rfl (Nat.le_of_ble_eq_true rfl) (by decide) (okc_1 hy) rfl dX12_clauseHere_24 rfl ?_
    refine v_if_ne (pc := 27) (tgt := 70) K dX12_clauseHere_27 (by decide) hF (fun c26 hF => ?_) (fun c26 hF => ?_)
    · refine v_sub [1, 0] rfl ?_
      exact bX12_clauseHere_70 l K hy hQ hF
    · refine v_aload_n (pc := 30) K dX12_clauseHere_30 1 rfl ?_
      refine v_ldc2 (pc := 31) (v := 125779836236645) K dX12_clauseHere_31 (List.mem_cons_of_mem _ jl_X12_265) ?_
      obtain ⟨r11, M12, hc10, hF⟩ := q_bE hF
      refine v_callV (pc := 34) (ci := 11) (As := [.long (125779836236645 : Int64)]) (rest := []) (st' := [.int r11]) (r := some (.int r11)) (M1 := M12) K (kX12_isWord l K.2.2.2.2.2.2.1 hy hc10) (jg_V jl_X12_131 jw_i_X12_isWord jw_s_X12_isWord jw_n_X12 jw_c_X12_isWord) rfl rfl rfl jd_X12_isWord ⟨Nat.le_of_ble_eq_true rfl, Nat.le_of_ble_eq_true rfl⟩ rfl rfl (Nat.le_of_ble_eq_true rfl) (by decide) (okc_1 hy) rfl dX12_clauseHere_34 rfl ?_
      refine v_if_ne (pc := 37) (tgt := 70) K dX12_clauseHere_37 (by decide) hF (fun c25 hF => ?_) (fun c25 hF => ?_)
      · refine v_sub [1, 0] rfl ?_
        exact bX12_clauseHere_70 l K hy hQ hF
      · refine v_aload_n (pc := 40) K dX12_clauseHere_40 1 rfl ?_
        refine v_ldc2 (pc := 41) (v := 6386539) K dX12_clauseHere_41 (List.mem_cons_of_mem _ jl_X12_267) ?_
        obtain ⟨r14, M15, hc13, hF⟩ := q_bE hF
        refine v_callV (pc := 44) (ci := 11) (As := [.long (6386539 : Int64)]) (rest := []) (st' := [.int r14]) (r := some (.int r14)) (M1 := M15) K (kX12_isWord l K.2.2.2.2.2.2.1 hy hc13) (jg_V jl_X12_131 jw_i_X12_isWord jw_s_X12_isWord jw_n_X12 jw_c_X12_isWord) rfl rfl rfl jd_X12_isWord ⟨Nat.le_of_ble_eq_true rfl, Nat.le_of_ble_eq_true rfl⟩ rfl rfl (Nat.le_of_ble_eq_true rfl) (by decide) (okc_1 hy) rfl dX12_clauseHere_44 rfl ?_
        refine v_if_ne (pc := 47) (tgt := 70) K dX12_clauseHere_47 (by decide) hF (fun c24 hF => ?_) (fun c24 hF => ?_)
        · refine v_sub [1, 0] rfl ?_
          exact bX12_clauseHere_70 l K hy hQ hF
        · refine v_aload_n (pc := 50) K dX12_clauseHere_50 1 rfl ?_
          refine v_ldc2 (pc := 51) (v := 448546566771) K dX12_clauseHere_51 (List.mem_cons_of_mem _ jl_X12_269) ?_
          obtain ⟨r17, M18, hc16, hF⟩ := q_bE hF
          refine v_callV (pc := 54) (ci := 11) (As := [.long (448546566771 : Int64)]) (rest := []) (st' := [.int r17]) (r := some (.int r17)) (M1 := M18) K (kX12_isWord l K.2.2.2.2.2.2.1 hy hc16) (jg_V jl_X12_131 jw_i_X12_isWord jw_s_X12_isWord jw_n_X12 jw_c_X12_isWord) rfl rfl rfl jd_X12_isWord ⟨Nat.le_of_ble_eq_true rfl, Nat.le_of_ble_eq_true rfl⟩ rfl rfl (Nat.le_of_ble_eq_true rfl) (by decide) (okc_1 hy) rfl dX12_clauseHere_54 rfl ?_
          refine v_if_ne (pc := 57) (tgt := 70) K dX12_clauseHere_57 (by decide) hF (fun c23 hF => ?_) (fun c23 hF => ?_)
          · refine v_sub [1, 0] rfl ?_
            exact bX12_clauseHere_70 l K hy hQ hF
          · refine v_aload_n (pc := 60) K dX12_clauseHere_60 1 rfl ?_
            refine v_ldc2 (pc := 61) (v := 1836413812) K dX12_clauseHere_61 (List.mem_cons_of_mem _ jl_X12_271) ?_
            obtain ⟨r20, M21, hc19, hF⟩ := q_bE hF
            refine v_callV (pc := 64) (ci := 11) (As := [.long (1836413812 : Int64)]) (rest := []) (st' := [.int r20]) (r := some (.int r20)) (M1 := M21) K (kX12_isWord l K.2.2.2.2.2.2.1 hy hc19) (jg_V jl_X12_131 jw_i_X12_isWord jw_s_X12_isWord jw_n_X12 jw_c_X12_isWord) rfl rfl rfl jd_X12_isWord ⟨Nat.le_of_ble_eq_true rfl, Nat.le_of_ble_eq_true rfl⟩ rfl rfl (Nat.le_of_ble_eq_true rfl) (by decide) (okc_1 hy) rfl dX12_clauseHere_64 rfl ?_
            refine v_if_eq (pc := 67) (tgt := 74) K dX12_clauseHere_67 (by decide) hF (fun c22 hF => ?_) (fun c22 hF => ?_)
            · refine v_iconst (pc := 74) (v := 0) K dX12_clauseHere_74 rfl ?_
              refine v_sub [1, 0] rfl ?_
              exact bX12_clauseHere_75 l K hy hQ hF
            · refine v_sub [1, 0] rfl ?_
              exact bX12_clauseHere_70 l K hy hQ hF
set_option maxRecDepth 100000 in
set_option maxHeartbeats 4000000 in
theorem kX12_clauseHere (l : Launch) {y : Ly} (hJ : ly_J y) (hy : y.2.2.2.2 = 1) {M M1 : QM} {r : Int32} (hF : fX12_clauseHere M  = some (r, M1)) : Met l yX12_clauseHere wqX12_clauseHere rmX12_clauseHere (q_P y [.ref (ly_o y 1000)] M) (q_E y (some (.int r)) M1) 0 0 (ly_A y) :=
  q_met (by decide) rfl hJ rfl rfl rfl (fun x K hQ => bX12_clauseHere_0 l K hy (z := (r, M1)) hQ  hF)
-- ===== X12_code ()I
theorem jd_X12_code : yX12_code.cls = RX12 ∧ yX12_code.cls ≠ "java/lang/invoke/MethodHandle" ∧ yX12_code.cls ≠ "java/lang/invoke/VarHandle" ∧ (parseMethodDescriptor yX12_code.desc).map (fun d => d.parameters.length) = some 0 := by decide +kernel
abbrev wqX12_code : List Cond := .code yX12_code cX12_code 2 (some .int) :: wsL_law
abbrev rmX12_code : Room := { frames := 11, cells := 0, slots := 0, locals := 248 }
def fX12_code_b274 (M : QM) (s0 : Int32) (s1 : Int32) : Option (Int32 × QM) := (if q_in s1 6 then (q_t (p_a M 1000 13 s1.toNatClampNeg s0) fun M54 => (q_t (p_i M54 1000 5 ((q_i M54 1000 5) + (1 : Int32))) fun M55 => some ((q_i M55 1000 5) - (1 : Int32), M55))) else none)
set_option maxRecDepth 100000 in
set_option maxHeartbeats 4000000 in
theorem bX12_code_274 {x : Cx} {y : Ly} (l : Launch) (K : VK x l rmX12_code y 2 cX12_code RX12 wqX12_code) (hy : y.2.2.2.2 = 1) {z : Int32 × QM} (hQ : VQ x y (some (.int z.1)) z.2 (some .int)) {M : QM} {s0 : Int32} {s1 : Int32} (hF : fX12_code_b274 M s0 s1 = some z) : V x y 2 M 274 [(0, .ref (ly_o y 1000))] [.int s0, .int s1, .ref (ly_a y 1000 13)] := by
  unfold fX12_code_b274 at hF
  refine uX12_must (pc := 274) K hy (by decide) hF dX12_code_274 (fun hi53 hF => ?_)
  refine v_nmM hF (fun M54 hF => ?_)
  refine v_aload_n (pc := 275) K dX12_code_275 0 rfl ?_
  refine v_dup (pc := 276) K dX12_code_276 rfl ?_
  refine gX12_codes (pc := 277) K hy (by decide) jn_X12 (List.mem_cons_of_mem _ jl_X12_280) dX12_code_277 ?_
  refine v_iconst (pc := 280) (v := 1) K dX12_code_280 rfl ?_
  refine v_iadd (pc := 281) K dX12_code_281 ?_
  refine pX12_codes (pc := 282) K hy (by decide) jn_X12 (List.mem_cons_of_mem _ jl_X12_280) dX12_code_282 ?_
  refine v_nmM hF (fun M55 hF => ?_)
  refine v_aload_n (pc := 285) K dX12_code_285 0 rfl ?_
  refine gX12_codes (pc := 286) K hy (by decide) jn_X12 (List.mem_cons_of_mem _ jl_X12_280) dX12_code_286 ?_
  refine v_iconst (pc := 289) (v := 1) K dX12_code_289 rfl ?_
  refine v_isub (pc := 290) K dX12_code_290 ?_
  have hz := (Option.some.inj hF).symm
  subst hz
  exact v_iret (pc := 291) K hQ dX12_code_291
def fX12_code_b240 (M : QM) (s0 : Int32) (s1 : Int32) : Option (Int32 × QM) := (if q_in s1 6 then (q_t (p_a M 1000 12 s1.toNatClampNeg s0) fun M49 => (if q_in (q_i M49 1000 17) 6 then if (0 : Int32) ≤ (q_a M49 1000 13 (q_i M49 1000 17).toNatClampNeg) then (if q_in (q_i M49 1000 17) 6 then (fX12_code_b274 M49 (q_a M49 1000 13 (q_i M49 1000 17).toNatClampNeg) (q_i M49 1000 17)) else none) else (fX12_code_b274 M49 (1 : Int32) (q_i M49 1000 17)) else none)) else none)
set_option maxRecDepth 100000 in
set_option maxHeartbeats 4000000 in
theorem bX12_code_240 {x : Cx} {y : Ly} (l : Launch) (K : VK x l rmX12_code y 2 cX12_code RX12 wqX12_code) (hy : y.2.2.2.2 = 1) {z : Int32 × QM} (hQ : VQ x y (some (.int z.1)) z.2 (some .int)) {M : QM} {s0 : Int32} {s1 : Int32} (hF : fX12_code_b240 M s0 s1 = some z) : V x y 2 M 240 [(0, .ref (ly_o y 1000))] [.int s0, .int s1, .ref (ly_a y 1000 12)] := by
  unfold fX12_code_b240 at hF
  refine uX12_hours (pc := 240) K hy (by decide) hF dX12_code_240 (fun hi48 hF => ?_)
  refine v_nmM hF (fun M49 hF => ?_)
  refine v_aload_n (pc := 241) K dX12_code_241 0 rfl ?_
  refine gX12_must (pc := 242) K hy (by decide) jn_X12 (List.mem_cons_of_mem _ jl_X12_41) dX12_code_242 ?_
  refine v_aload_n (pc := 245) K dX12_code_245 0 rfl ?_
  refine gX12_text (pc := 246) K hy (by decide) jn_X12 (List.mem_cons_of_mem _ jl_X12_183) dX12_code_246 ?_
  refine v_aload_n (pc := 249) K dX12_code_249 0 rfl ?_
  refine gX12_must (pc := 250) K hy (by decide) jn_X12 (List.mem_cons_of_mem _ jl_X12_41) dX12_code_250 ?_
  refine v_aload_n (pc := 253) K dX12_code_253 0 rfl ?_
  refine gX12_text (pc := 254) K hy (by decide) jn_X12 (List.mem_cons_of_mem _ jl_X12_183) dX12_code_254 ?_
  refine iX12_must (pc := 257) K hy (by decide) hF dX12_code_257 (fun hi50 hF => ?_)
  refine v_if_ge (pc := 258) (tgt := 265) K dX12_code_258 (by decide) hF (fun c52 hF => ?_) (fun c52 hF => ?_)
  · refine v_aload_n (pc := 265) K dX12_code_265 0 rfl ?_
    refine gX12_must (pc := 266) K hy (by decide) jn_X12 (List.mem_cons_of_mem _ jl_X12_41) dX12_code_266 ?_
    refine v_aload_n (pc := 269) K dX12_code_269 0 rfl ?_
    refine gX12_text (pc := 270) K hy (by decide) jn_X12 (List.mem_cons_of_mem _ jl_X12_183) dX12_code_270 ?_
    refine iX12_must (pc := 273) K hy (by decide) hF dX12_code_273 (fun hi51 hF => ?_)
    exact bX12_code_274 l K hy hQ hF
  · refine v_iconst (pc := 261) (v := 1) K dX12_code_261 rfl ?_
    refine v_goto (pc := 262) (tgt := 274) K dX12_code_262 (by decide) ?_
    exact bX12_code_274 l K hy hQ hF
def fX12_code_b205 (M : QM) (s0 : Int32) (s1 : Int32) : Option (Int32 × QM) := (if q_in s1 6 then (q_t (p_a M 1000 11 s1.toNatClampNeg s0) fun M44 => (if q_in (q_i M44 1000 17) 6 then if (0 : Int32) ≤ (q_a M44 1000 12 (q_i M44 1000 17).toNatClampNeg) then (if q_in (q_i M44 1000 17) 6 then (fX12_code_b240 M44 (q_a M44 1000 12 (q_i M44 1000 17).toNatClampNeg) (q_i M44 1000 17)) else none) else (fX12_code_b240 M44 (6 : Int32) (q_i M44 1000 17)) else none)) else none)
set_option maxRecDepth 100000 in
set_option maxHeartbeats 4000000 in
theorem bX12_code_205 {x : Cx} {y : Ly} (l : Launch) (K : VK x l rmX12_code y 2 cX12_code RX12 wqX12_code) (hy : y.2.2.2.2 = 1) {z : Int32 × QM} (hQ : VQ x y (some (.int z.1)) z.2 (some .int)) {M : QM} {s0 : Int32} {s1 : Int32} (hF : fX12_code_b205 M s0 s1 = some z) : V x y 2 M 205 [(0, .ref (ly_o y 1000))] [.int s0, .int s1, .ref (ly_a y 1000 11)] := by
  unfold fX12_code_b205 at hF
  refine uX12_ask (pc := 205) K hy (by decide) hF dX12_code_205 (fun hi43 hF => ?_)
  refine v_nmM hF (fun M44 hF => ?_)
  refine v_aload_n (pc := 206) K dX12_code_206 0 rfl ?_
  refine gX12_hours (pc := 207) K hy (by decide) jn_X12 (List.mem_cons_of_mem _ jl_X12_38) dX12_code_207 ?_
  refine v_aload_n (pc := 210) K dX12_code_210 0 rfl ?_
  refine gX12_text (pc := 211) K hy (by decide) jn_X12 (List.mem_cons_of_mem _ jl_X12_183) dX12_code_211 ?_
  refine v_aload_n (pc := 214) K dX12_code_214 0 rfl ?_
  refine gX12_hours (pc := 215) K hy (by decide) jn_X12 (List.mem_cons_of_mem _ jl_X12_38) dX12_code_215 ?_
  refine v_aload_n (pc := 218) K dX12_code_218 0 rfl ?_
  refine gX12_text (pc := 219) K hy (by decide) jn_X12 (List.mem_cons_of_mem _ jl_X12_183) dX12_code_219 ?_
  refine iX12_hours (pc := 222) K hy (by decide) hF dX12_code_222 (fun hi45 hF => ?_)
  refine v_if_ge (pc := 223) (tgt := 231) K dX12_code_223 (by decide) hF (fun c47 hF => ?_) (fun c47 hF => ?_)
  · refine v_aload_n (pc := 231) K dX12_code_231 0 rfl ?_
    refine gX12_hours (pc := 232) K hy (by decide) jn_X12 (List.mem_cons_of_mem _ jl_X12_38) dX12_code_232 ?_
    refine v_aload_n (pc := 235) K dX12_code_235 0 rfl ?_
    refine gX12_text (pc := 236) K hy (by decide) jn_X12 (List.mem_cons_of_mem _ jl_X12_183) dX12_code_236 ?_
    refine iX12_hours (pc := 239) K hy (by decide) hF dX12_code_239 (fun hi46 hF => ?_)
    exact bX12_code_240 l K hy hQ hF
  · refine v_bipush (pc := 226) (v := 6) K dX12_code_226 rfl ?_
    refine v_goto (pc := 228) (tgt := 240) K dX12_code_228 (by decide) ?_
    exact bX12_code_240 l K hy hQ hF
def fX12_code_b152 (M : QM) : Option (Int32 × QM) := (q_t (p_i M 1000 4 (0 : Int32)) fun M38 => if (q_i M38 1000 15) ≤ (0 : Int32) then (if q_in (q_i M38 1000 17) 6 then if (0 : Int32) ≤ (q_a M38 1000 11 (q_i M38 1000 17).toNatClampNeg) then (if q_in (q_i M38 1000 17) 6 then (fX12_code_b205 M38 (q_a M38 1000 11 (q_i M38 1000 17).toNatClampNeg) (q_i M38 1000 17)) else none) else (fX12_code_b205 M38 (1 : Int32) (q_i M38 1000 17)) else none) else some ((-2 : Int32) - (q_i M38 1000 15), M38))
set_option maxRecDepth 100000 in
set_option maxHeartbeats 4000000 in
theorem bX12_code_152 {x : Cx} {y : Ly} (l : Launch) (K : VK x l rmX12_code y 2 cX12_code RX12 wqX12_code) (hy : y.2.2.2.2 = 1) {z : Int32 × QM} (hQ : VQ x y (some (.int z.1)) z.2 (some .int)) {M : QM} (hF : fX12_code_b152 M  = some z) : V x y 2 M 152 [(0, .ref (ly_o y 1000))] [] := by
  unfold fX12_code_b152 at hF
  refine v_aload_n (pc := 152) K dX12_code_152 0 rfl ?_
  refine v_iconst (pc := 153) (v := 0) K dX12_code_153 rfl ?_
  refine pX12_taped (pc := 154) K hy (by decide) jn_X12 (List.mem_cons_of_mem _ jl_X12_111) dX12_code_154 ?_
  refine v_nmM hF (fun M38 hF => ?_)
  refine v_aload_n (pc := 157) K dX12_code_157 0 rfl ?_
  refine gX12_wrong (pc := 158) K hy (by decide) jn_X12 (List.mem_cons_of_mem _ jl_X12_118) dX12_code_158 ?_
  refine v_if_le (pc := 161) (tgt := 172) K dX12_code_161 (by decide) hF (fun c42 hF => ?_) (fun c42 hF => ?_)
  · refine v_aload_n (pc := 172) K dX12_code_172 0 rfl ?_
    refine gX12_ask (pc := 173) K hy (by decide) jn_X12 (List.mem_cons_of_mem _ jl_X12_35) dX12_code_173 ?_
    refine v_aload_n (pc := 176) K dX12_code_176 0 rfl ?_
    refine gX12_text (pc := 177) K hy (by decide) jn_X12 (List.mem_cons_of_mem _ jl_X12_183) dX12_code_177 ?_
    refine v_aload_n (pc := 180) K dX12_code_180 0 rfl ?_
    refine gX12_ask (pc := 181) K hy (by decide) jn_X12 (List.mem_cons_of_mem _ jl_X12_35) dX12_code_181 ?_
    refine v_aload_n (pc := 184) K dX12_code_184 0 rfl ?_
    refine gX12_text (pc := 185) K hy (by decide) jn_X12 (List.mem_cons_of_mem _ jl_X12_183) dX12_code_185 ?_
    refine iX12_ask (pc := 188) K hy (by decide) hF dX12_code_188 (fun hi39 hF => ?_)
    refine v_if_ge (pc := 189) (tgt := 196) K dX12_code_189 (by decide) hF (fun c41 hF => ?_) (fun c41 hF => ?_)
    · refine v_aload_n (pc := 196) K dX12_code_196 0 rfl ?_
      refine gX12_ask (pc := 197) K hy (by decide) jn_X12 (List.mem_cons_of_mem _ jl_X12_35) dX12_code_197 ?_
      refine v_aload_n (pc := 200) K dX12_code_200 0 rfl ?_
      refine gX12_text (pc := 201) K hy (by decide) jn_X12 (List.mem_cons_of_mem _ jl_X12_183) dX12_code_201 ?_
      refine iX12_ask (pc := 204) K hy (by decide) hF dX12_code_204 (fun hi40 hF => ?_)
      exact bX12_code_205 l K hy hQ hF
    · refine v_iconst (pc := 192) (v := 1) K dX12_code_192 rfl ?_
      refine v_goto (pc := 193) (tgt := 205) K dX12_code_193 (by decide) ?_
      exact bX12_code_205 l K hy hQ hF
  · refine v_bipush (pc := 164) (v := -2) K dX12_code_164 rfl ?_
    refine v_aload_n (pc := 166) K dX12_code_166 0 rfl ?_
    refine gX12_wrong (pc := 167) K hy (by decide) jn_X12 (List.mem_cons_of_mem _ jl_X12_118) dX12_code_167 ?_
    refine v_isub (pc := 170) K dX12_code_170 ?_
    have hz := (Option.some.inj hF).symm
    subst hz
    exact v_iret (pc := 171) K hQ dX12_code_171
def fX12_code_b130 (M : QM) (x1 : Int32) : Option (Int32 × QM) := if x1 = (0 : Int32) then (fX12_code_b152 M) else (q_b (fX12_see M) fun r31 M32 => if r31 = (-1 : Int32) then (fX12_code_b152 M32) else (q_b (fX12_fails M32 (0 : Int32) (q_i M32 1000 14)) fun r34 M35 => (fX12_code_b152 M35)))
set_option maxRecDepth 100000 in
set_option maxHeartbeats 4000000 in
theorem bX12_code_130 {x : Cx} {y : Ly} (l : Launch) (K : VK x l rmX12_code y 2 cX12_code RX12 wqX12_code) (hy : y.2.2.2.2 = 1) {z : Int32 × QM} (hQ : VQ x y (some (.int z.1)) z.2 (some .int)) {M : QM} {x1 : Int32} (hF : fX12_code_b130 M x1 = some z) : V x y 2 M 130 [(0, .ref (ly_o y 1000)), (1, .int x1)] [] := by
  unfold fX12_code_b130 at hF
  refine v_iload_n (pc := 130) K dX12_code_130 1 rfl ?_
  refine v_if_eq (pc := 131) (tgt := 152) K dX12_code_131 (by decide) hF (fun c37 hF => ?_) (fun c37 hF => ?_)
  · refine v_sub [0] rfl ?_
    exact bX12_code_152 l K hy hQ hF
  · refine v_aload_n (pc := 134) K dX12_code_134 0 rfl ?_
    obtain ⟨r31, M32, hc30, hF⟩ := q_bE hF
    refine v_callV (pc := 135) (ci := 11) (As := []) (rest := []) (st' := [.int r31]) (r := some (.int r31)) (M1 := M32) K (kX12_see l K.2.2.2.2.2.2.1 hy hc30) (jg_V jl_X12_124 jw_i_X12_see jw_s_X12_see jw_n_X12 jw_c_X12_see) rfl rfl rfl jd_X12_see ⟨Nat.le_of_ble_eq_true rfl, Nat.le_of_ble_eq_true rfl⟩ rfl rfl (Nat.le_of_ble_eq_true rfl) (by decide) (okc_1 hy) rfl dX12_code_135 rfl ?_
    refine v_iconst (pc := 138) (v := -1) K dX12_code_138 rfl ?_
    refine v_icmp_eq (pc := 139) (tgt := 152) K dX12_code_139 (by decide) hF (fun c36 hF => ?_) (fun c36 hF => ?_)
    · refine v_sub [0] rfl ?_
      exact bX12_code_152 l K hy hQ hF
    · refine v_aload_n (pc := 142) K dX12_code_142 0 rfl ?_
      refine v_iconst (pc := 143) (v := 0) K dX12_code_143 rfl ?_
      refine v_aload_n (pc := 144) K dX12_code_144 0 rfl ?_
      refine gX12_next (pc := 145) K hy (by decide) jn_X12 (List.mem_cons_of_mem _ jl_X12_121) dX12_code_145 ?_
      obtain ⟨r34, M35, hc33, hF⟩ := q_bE hF
      refine v_callV (pc := 148) (ci := 11) (As := [.int (0 : Int32), .int (q_i M32 1000 14)]) (rest := []) (st' := [.int r34]) (r := some (.int r34)) (M1 := M35) K (kX12_fails l K.2.2.2.2.2.2.1 hy hc33) (jg_V jl_X12_141 jw_i_X12_fails jw_s_X12_fails jw_n_X12 jw_c_X12_fails) rfl rfl rfl jd_X12_fails ⟨Nat.le_of_ble_eq_true rfl, Nat.le_of_ble_eq_true rfl⟩ rfl rfl (Nat.le_of_ble_eq_true rfl) (by decide) (okc_1 hy) rfl dX12_code_148 rfl ?_
      refine v_pop (pc := 151) K dX12_code_151 rfl ?_
      refine v_sub [0] rfl ?_
      exact bX12_code_152 l K hy hQ hF
def fX12_code_b99 : Nat → QM → Int32 → Option (Int32 × QM)
  | 0, _, _ => none
  | q + 1, M, x1 => if x1 = (0 : Int32) then (fX12_code_b130 M x1) else (q_b (fX12_see M) fun r22 M23 => if r22 ≠ (59 : Int32) then (fX12_code_b130 M23 x1) else (q_t (p_i M23 1000 14 ((q_i M23 1000 14) + (1 : Int32))) fun M24 => (q_b (fX12_clauseHere M24) fun r26 M27 => (fX12_code_b99 q M27 r26))))
set_option maxRecDepth 100000 in
set_option maxHeartbeats 4000000 in
theorem bX12_code_99 {x : Cx} {y : Ly} (l : Launch) (K : VK x l rmX12_code y 2 cX12_code RX12 wqX12_code) (hy : y.2.2.2.2 = 1) {z : Int32 × QM} (hQ : VQ x y (some (.int z.1)) z.2 (some .int)) : ∀ (q : Nat) {M : QM} {x1 : Int32},  fX12_code_b99 q M x1 = some z → V x y 2 M 99 [(0, .ref (ly_o y 1000)), (1, .int x1)] [] := by
  intro q
  induction q with
  | zero =>
    intro M x1  hF
    rw [fX12_code_b99] at hF
    cases hF
  | succ q ih =>
    intro M x1  hF
    rw [fX12_code_b99] at hF
    refine v_iload_n (pc := 99) K dX12_code_99 1 rfl ?_
    refine v_if_eq (pc := 100) (tgt := 130) K dX12_code_100 (by decide) hF (fun c29 hF => ?_) (fun c29 hF => ?_)
    · exact bX12_code_130 l K hy hQ hF
    · refine v_aload_n (pc := 103) K dX12_code_103 0 rfl ?_
      obtain ⟨r22, M23, hc21, hF⟩ := q_bE hF
      refine v_callV (pc := 104) (ci := 11) (As := []) (rest := []) (st' := [.int r22]) (r := some (.int r22)) (M1 := M23) K (kX12_see l K.2.2.2.2.2.2.1 hy hc21) (jg_V jl_X12_124 jw_i_X12_see jw_s_X12_see jw_n_X12 jw_c_X12_see) rfl rfl rfl jd_X12_see ⟨Nat.le_of_ble_eq_true rfl, Nat.le_of_ble_eq_true rfl⟩ rfl rfl (Nat.le_of_ble_eq_true rfl) (by decide) (okc_1 hy) rfl dX12_code_104 rfl ?_
      refine v_bipush (pc := 107) (v := 59) K dX12_code_107 rfl ?_
      refine v_icmp_ne (pc := 109) (tgt := 130) K dX12_code_109 (by decide) hF (fun c28 hF => ?_) (fun c28 hF => ?_)
      · exact bX12_code_130 l K hy hQ hF
      · refine v_aload_n (pc := 112) K dX12_code_112 0 rfl ?_
        refine v_dup (pc := 113) K dX12_code_113 rfl ?_
        refine gX12_next (pc := 114) K hy (by decide) jn_X12 (List.mem_cons_of_mem _ jl_X12_121) dX12_code_114 ?_
        refine v_iconst (pc := 117) (v := 1) K dX12_code_117 rfl ?_
        refine v_iadd (pc := 118) K dX12_code_118 ?_
        refine pX12_next (pc := 119) K hy (by decide) jn_X12 (List.mem_cons_of_mem _ jl_X12_121) dX12_code_119 ?_
        refine v_nmM hF (fun M24 hF => ?_)
        refine v_aload_n (pc := 122) K dX12_code_122 0 rfl ?_
        obtain ⟨r26, M27, hc25, hF⟩ := q_bE hF
        refine v_callV (pc := 123) (ci := 11) (As := []) (rest := []) (st' := [.int r26]) (r := some (.int r26)) (M1 := M27) K (kX12_clauseHere l K.2.2.2.2.2.2.1 hy hc25) (jg_V jl_X12_283 jw_i_X12_clauseHere jw_s_X12_clauseHere jw_n_X12 jw_c_X12_clauseHere) rfl rfl rfl jd_X12_clauseHere ⟨Nat.le_of_ble_eq_true rfl, Nat.le_of_ble_eq_true rfl⟩ rfl rfl (Nat.le_of_ble_eq_true rfl) (by decide) (okc_1 hy) rfl dX12_code_123 rfl ?_
        refine v_istore_n (pc := 126) (lv' := [(1, .int r26), (0, .ref (ly_o y 1000))]) K dX12_code_126 1 rfl (by decide) rfl ?_
        refine v_goto (pc := 127) (tgt := 99) K dX12_code_127 (by decide) ?_
        refine v_sub [1, 0] rfl ?_
        exact ih hF
def fX12_code (M : QM) : Option (Int32 × QM) := if (q_i M 1000 5) ≠ (6 : Int32) then (q_t (p_i M 1000 17 (q_i M 1000 5)) fun M1 => (if q_in (q_i M1 1000 17) 6 then (q_t (p_a M1 1000 7 (q_i M1 1000 17).toNatClampNeg (0 : Int32)) fun M3 => (if q_in (q_i M3 1000 17) 6 then (q_t (p_a M3 1000 9 (q_i M3 1000 17).toNatClampNeg (0 : Int32)) fun M5 => (if q_in (q_i M5 1000 17) 6 then (q_t (p_a M5 1000 10 (q_i M5 1000 17).toNatClampNeg (0 : Int32)) fun M7 => (if q_in (q_i M7 1000 17) 6 then (q_t (p_a M7 1000 11 (q_i M7 1000 17).toNatClampNeg (-1 : Int32)) fun M9 => (if q_in (q_i M9 1000 17) 6 then (q_t (p_a M9 1000 12 (q_i M9 1000 17).toNatClampNeg (-1 : Int32)) fun M11 => (if q_in (q_i M11 1000 17) 6 then (q_t (p_a M11 1000 13 (q_i M11 1000 17).toNatClampNeg (-1 : Int32)) fun M13 => (q_t (p_i M13 1000 14 (0 : Int32)) fun M14 => (q_t (p_i M14 1000 15 (0 : Int32)) fun M15 => (q_t (p_i M15 1000 18 (0 : Int32)) fun M16 => (q_b (fX12_clauseHere M16) fun r18 M19 => (fX12_code_b99 q_F M19 r18)))))) else none)) else none)) else none)) else none)) else none)) else none)) else some ((-1 : Int32), M)
set_option maxRecDepth 100000 in
set_option maxHeartbeats 4000000 in
theorem bX12_code_0 {x : Cx} {y : Ly} (l : Launch) (K : VK x l rmX12_code y 2 cX12_code RX12 wqX12_code) (hy : y.2.2.2.2 = 1) {z : Int32 × QM} (hQ : VQ x y (some (.int z.1)) z.2 (some .int)) {M : QM} (hF : fX12_code M  = some z) : V x y 2 M 0 [(0, .ref (ly_o y 1000))] [] := by
  unfold fX12_code at hF
  refine v_aload_n (pc := 0) K dX12_code_0 0 rfl ?_
  refine gX12_codes (pc := 1) K hy (by decide) jn_X12 (List.mem_cons_of_mem _ jl_X12_280) dX12_code_1 ?_
  refine v_bipush (pc := 4) (v := 6) K dX12_code_4 rfl ?_
  refine v_icmp_ne (pc := 6) (tgt := 11) K dX12_code_6 (by decide) hF (fun c20 hF => ?_) (fun c20 hF => ?_)
  · refine v_aload_n (pc := 11) K dX12_code_11 0 rfl ?_
    refine v_aload_n (pc := 12) K dX12_code_12 0 rfl ?_
    refine gX12_codes (pc := 13) K hy (by decide) jn_X12 (List.mem_cons_of_mem _ jl_X12_280) dX12_code_13 ?_
    refine pX12_text (pc := 16) K hy (by decide) jn_X12 (List.mem_cons_of_mem _ jl_X12_183) dX12_code_16 ?_
    refine v_nmM hF (fun M1 hF => ?_)
    refine v_aload_n (pc := 19) K dX12_code_19 0 rfl ?_
    refine gX12_length (pc := 20) K hy (by decide) jn_X12 (List.mem_cons_of_mem _ jl_X12_23) dX12_code_20 ?_
    refine v_aload_n (pc := 23) K dX12_code_23 0 rfl ?_
    refine gX12_text (pc := 24) K hy (by decide) jn_X12 (List.mem_cons_of_mem _ jl_X12_183) dX12_code_24 ?_
    refine v_iconst (pc := 27) (v := 0) K dX12_code_27 rfl ?_
    refine uX12_length (pc := 28) K hy (by decide) hF dX12_code_28 (fun hi2 hF => ?_)
    refine v_nmM hF (fun M3 hF => ?_)
    refine v_aload_n (pc := 29) K dX12_code_29 0 rfl ?_
    refine gX12_clauses (pc := 30) K hy (by decide) jn_X12 (List.mem_cons_of_mem _ jl_X12_29) dX12_code_30 ?_
    refine v_aload_n (pc := 33) K dX12_code_33 0 rfl ?_
    refine gX12_text (pc := 34) K hy (by decide) jn_X12 (List.mem_cons_of_mem _ jl_X12_183) dX12_code_34 ?_
    refine v_iconst (pc := 37) (v := 0) K dX12_code_37 rfl ?_
    refine uX12_clauses (pc := 38) K hy (by decide) hF dX12_code_38 (fun hi4 hF => ?_)
    refine v_nmM hF (fun M5 hF => ?_)
    refine v_aload_n (pc := 39) K dX12_code_39 0 rfl ?_
    refine gX12_all (pc := 40) K hy (by decide) jn_X12 (List.mem_cons_of_mem _ jl_X12_32) dX12_code_40 ?_
    refine v_aload_n (pc := 43) K dX12_code_43 0 rfl ?_
    refine gX12_text (pc := 44) K hy (by decide) jn_X12 (List.mem_cons_of_mem _ jl_X12_183) dX12_code_44 ?_
    refine v_iconst (pc := 47) (v := 0) K dX12_code_47 rfl ?_
    refine uX12_all (pc := 48) K hy (by decide) hF dX12_code_48 (fun hi6 hF => ?_)
    refine v_nmM hF (fun M7 hF => ?_)
    refine v_aload_n (pc := 49) K dX12_code_49 0 rfl ?_
    refine gX12_ask (pc := 50) K hy (by decide) jn_X12 (List.mem_cons_of_mem _ jl_X12_35) dX12_code_50 ?_
    refine v_aload_n (pc := 53) K dX12_code_53 0 rfl ?_
    refine gX12_text (pc := 54) K hy (by decide) jn_X12 (List.mem_cons_of_mem _ jl_X12_183) dX12_code_54 ?_
    refine v_iconst (pc := 57) (v := -1) K dX12_code_57 rfl ?_
    refine uX12_ask (pc := 58) K hy (by decide) hF dX12_code_58 (fun hi8 hF => ?_)
    refine v_nmM hF (fun M9 hF => ?_)
    refine v_aload_n (pc := 59) K dX12_code_59 0 rfl ?_
    refine gX12_hours (pc := 60) K hy (by decide) jn_X12 (List.mem_cons_of_mem _ jl_X12_38) dX12_code_60 ?_
    refine v_aload_n (pc := 63) K dX12_code_63 0 rfl ?_
    refine gX12_text (pc := 64) K hy (by decide) jn_X12 (List.mem_cons_of_mem _ jl_X12_183) dX12_code_64 ?_
    refine v_iconst (pc := 67) (v := -1) K dX12_code_67 rfl ?_
    refine uX12_hours (pc := 68) K hy (by decide) hF dX12_code_68 (fun hi10 hF => ?_)
    refine v_nmM hF (fun M11 hF => ?_)
    refine v_aload_n (pc := 69) K dX12_code_69 0 rfl ?_
    refine gX12_must (pc := 70) K hy (by decide) jn_X12 (List.mem_cons_of_mem _ jl_X12_41) dX12_code_70 ?_
    refine v_aload_n (pc := 73) K dX12_code_73 0 rfl ?_
    refine gX12_text (pc := 74) K hy (by decide) jn_X12 (List.mem_cons_of_mem _ jl_X12_183) dX12_code_74 ?_
    refine v_iconst (pc := 77) (v := -1) K dX12_code_77 rfl ?_
    refine uX12_must (pc := 78) K hy (by decide) hF dX12_code_78 (fun hi12 hF => ?_)
    refine v_nmM hF (fun M13 hF => ?_)
    refine v_aload_n (pc := 79) K dX12_code_79 0 rfl ?_
    refine v_iconst (pc := 80) (v := 0) K dX12_code_80 rfl ?_
    refine pX12_next (pc := 81) K hy (by decide) jn_X12 (List.mem_cons_of_mem _ jl_X12_121) dX12_code_81 ?_
    refine v_nmM hF (fun M14 hF => ?_)
    refine v_aload_n (pc := 84) K dX12_code_84 0 rfl ?_
    refine v_iconst (pc := 85) (v := 0) K dX12_code_85 rfl ?_
    refine pX12_wrong (pc := 86) K hy (by decide) jn_X12 (List.mem_cons_of_mem _ jl_X12_118) dX12_code_86 ?_
    refine v_nmM hF (fun M15 hF => ?_)
    refine v_aload_n (pc := 89) K dX12_code_89 0 rfl ?_
    refine v_iconst (pc := 90) (v := 0) K dX12_code_90 rfl ?_
    refine pX12_made (pc := 91) K hy (by decide) jn_X12 (List.mem_cons_of_mem _ jl_X12_186) dX12_code_91 ?_
    refine v_nmM hF (fun M16 hF => ?_)
    refine v_aload_n (pc := 94) K dX12_code_94 0 rfl ?_
    obtain ⟨r18, M19, hc17, hF⟩ := q_bE hF
    refine v_callV (pc := 95) (ci := 11) (As := []) (rest := []) (st' := [.int r18]) (r := some (.int r18)) (M1 := M19) K (kX12_clauseHere l K.2.2.2.2.2.2.1 hy hc17) (jg_V jl_X12_283 jw_i_X12_clauseHere jw_s_X12_clauseHere jw_n_X12 jw_c_X12_clauseHere) rfl rfl rfl jd_X12_clauseHere ⟨Nat.le_of_ble_eq_true rfl, Nat.le_of_ble_eq_true rfl⟩ rfl rfl (Nat.le_of_ble_eq_true rfl) (by decide) (okc_1 hy) rfl dX12_code_95 rfl ?_
    refine v_istore_n (pc := 98) (lv' := [(1, .int r18), (0, .ref (ly_o y 1000))]) K dX12_code_98 1 rfl (by decide) rfl ?_
    refine v_sub [1, 0] rfl ?_
    exact bX12_code_99 l K hy hQ q_F hF
  · refine v_iconst (pc := 9) (v := -1) K dX12_code_9 rfl ?_
    have hz := (Option.some.inj hF).symm
    subst hz
    exact v_iret (pc := 10) K hQ dX12_code_10
set_option maxRecDepth 100000 in
set_option maxHeartbeats 4000000 in
theorem kX12_code (l : Launch) {y : Ly} (hJ : ly_J y) (hy : y.2.2.2.2 = 1) {M M1 : QM} {r : Int32} (hF : fX12_code M  = some (r, M1)) : Met l yX12_code wqX12_code rmX12_code (q_P y [.ref (ly_o y 1000)] M) (q_E y (some (.int r)) M1) 0 0 (ly_A y) :=
  q_met (by decide) rfl hJ rfl rfl rfl (fun x K hQ => bX12_code_0 l K hy (z := (r, M1)) hQ  hF)
-- ===== X12_isCode (I)Z
theorem jd_X12_isCode : yX12_isCode.cls = RX12 ∧ yX12_isCode.cls ≠ "java/lang/invoke/MethodHandle" ∧ yX12_isCode.cls ≠ "java/lang/invoke/VarHandle" ∧ (parseMethodDescriptor yX12_isCode.desc).map (fun d => d.parameters.length) = some 1 := by decide +kernel
abbrev wqX12_isCode : List Cond := .code yX12_isCode cX12_isCode 2 (some .boolean) :: wsL_law
abbrev rmX12_isCode : Room := { frames := 0, cells := 0, slots := 0, locals := 0 }
def fX12_isCode (M : QM) (x1 : Int32) : Option (Int32 × QM) := if x1 < (0 : Int32) then some ((0 : Int32), M) else if (q_i M 1000 5) ≤ x1 then some ((0 : Int32), M) else some ((1 : Int32), M)
set_option maxRecDepth 100000 in
set_option maxHeartbeats 4000000 in
theorem bX12_isCode_0 {x : Cx} {y : Ly} (l : Launch) (K : VK x l rmX12_isCode y 2 cX12_isCode RX12 wqX12_isCode) (hy : y.2.2.2.2 = 1) {z : Int32 × QM} (hQ : VQ x y (some (.int z.1)) z.2 (some .boolean)) {M : QM} {x1 : Int32} (hF : fX12_isCode M x1 = some z) : V x y 2 M 0 [(0, .ref (ly_o y 1000)), (1, .int x1)] [] := by
  unfold fX12_isCode at hF
  refine v_iload_n (pc := 0) K dX12_isCode_0 1 rfl ?_
  refine v_if_lt (pc := 1) (tgt := 16) K dX12_isCode_1 (by decide) hF (fun c2 hF => ?_) (fun c2 hF => ?_)
  · refine v_iconst (pc := 16) (v := 0) K dX12_isCode_16 rfl ?_
    have hz := (Option.some.inj hF).symm
    subst hz
    exact v_zret (pc := 17) K hQ rfl dX12_isCode_17
  · refine v_iload_n (pc := 4) K dX12_isCode_4 1 rfl ?_
    refine v_aload_n (pc := 5) K dX12_isCode_5 0 rfl ?_
    refine gX12_codes (pc := 6) K hy (by decide) jn_X12 (List.mem_cons_of_mem _ jl_X12_280) dX12_isCode_6 ?_
    refine v_icmp_ge (pc := 9) (tgt := 16) K dX12_isCode_9 (by decide) hF (fun c1 hF => ?_) (fun c1 hF => ?_)
    · refine v_iconst (pc := 16) (v := 0) K dX12_isCode_16 rfl ?_
      have hz := (Option.some.inj hF).symm
      subst hz
      exact v_zret (pc := 17) K hQ rfl dX12_isCode_17
    · refine v_iconst (pc := 12) (v := 1) K dX12_isCode_12 rfl ?_
      refine v_goto (pc := 13) (tgt := 17) K dX12_isCode_13 (by decide) ?_
      have hz := (Option.some.inj hF).symm
      subst hz
      exact v_zret (pc := 17) K hQ rfl dX12_isCode_17
set_option maxRecDepth 100000 in
set_option maxHeartbeats 4000000 in
theorem kX12_isCode (l : Launch) {y : Ly} (hJ : ly_J y) (hy : y.2.2.2.2 = 1) {M M1 : QM} {r : Int32} {x1 : Int32} (hF : fX12_isCode M x1 = some (r, M1)) : Met l yX12_isCode wqX12_isCode rmX12_isCode (q_P y [.ref (ly_o y 1000), .int x1] M) (q_E y (some (.int r)) M1) 0 0 (ly_A y) :=
  q_met (by decide) rfl hJ rfl rfl rfl (fun x K hQ => bX12_isCode_0 l K hy (z := (r, M1)) hQ  hF)
-- ===== X12_keeps (II)Z
theorem jd_X12_keeps : yX12_keeps.cls = RX12 ∧ yX12_keeps.cls ≠ "java/lang/invoke/MethodHandle" ∧ yX12_keeps.cls ≠ "java/lang/invoke/VarHandle" ∧ (parseMethodDescriptor yX12_keeps.desc).map (fun d => d.parameters.length) = some 2 := by decide +kernel
abbrev wqX12_keeps : List Cond := .code yX12_keeps cX12_keeps 3 (some .boolean) :: wsL_law
abbrev rmX12_keeps : Room := { frames := 1, cells := 0, slots := 0, locals := 21 }
def fX12_keeps_b23 (M : QM) (x1 : Int32) (x2 : Int32) : Option (Int32 × QM) := (if q_in (((4 : Int32) * x1) + (3 : Int32)) 48 then (q_t (p_a M 1000 1 (((4 : Int32) * x1) + (3 : Int32)).toNatClampNeg x2) fun M11 => some ((1 : Int32), M11)) else none)
set_option maxRecDepth 100000 in
set_option maxHeartbeats 4000000 in
theorem bX12_keeps_23 {x : Cx} {y : Ly} (l : Launch) (K : VK x l rmX12_keeps y 3 cX12_keeps RX12 wqX12_keeps) (hy : y.2.2.2.2 = 1) {z : Int32 × QM} (hQ : VQ x y (some (.int z.1)) z.2 (some .boolean)) {M : QM} {x1 : Int32} {x2 : Int32} (hF : fX12_keeps_b23 M x1 x2 = some z) : V x y 3 M 23 [(0, .ref (ly_o y 1000)), (1, .int x1), (2, .int x2)] [] := by
  unfold fX12_keeps_b23 at hF
  refine v_aload_n (pc := 23) K dX12_keeps_23 0 rfl ?_
  refine gX12_person (pc := 24) K hy (by decide) jn_X12 (List.mem_cons_of_mem _ jl_X12_7) dX12_keeps_24 ?_
  refine v_iconst (pc := 27) (v := 4) K dX12_keeps_27 rfl ?_
  refine v_iload_n (pc := 28) K dX12_keeps_28 1 rfl ?_
  refine v_imul (pc := 29) K dX12_keeps_29 ?_
  refine v_iconst (pc := 30) (v := 3) K dX12_keeps_30 rfl ?_
  refine v_iadd (pc := 31) K dX12_keeps_31 ?_
  refine v_iload_n (pc := 32) K dX12_keeps_32 2 rfl ?_
  refine uX12_person (pc := 33) K hy (by decide) hF dX12_keeps_33 (fun hi10 hF => ?_)
  refine v_nmM hF (fun M11 hF => ?_)
  refine v_iconst (pc := 34) (v := 1) K dX12_keeps_34 rfl ?_
  have hz := (Option.some.inj hF).symm
  subst hz
  exact v_zret (pc := 35) K hQ rfl dX12_keeps_35
def fX12_keeps (M : QM) (x1 : Int32) (x2 : Int32) : Option (Int32 × QM) := (q_b (fX12_isPerson M x1) fun r2 M3 => if r2 = (0 : Int32) then some ((0 : Int32), M3) else if x2 = (-1 : Int32) then (fX12_keeps_b23 M3 x1 x2) else (q_b (fX12_isCode M3 x2) fun r5 M6 => if r5 ≠ (0 : Int32) then (fX12_keeps_b23 M6 x1 x2) else some ((0 : Int32), M6)))
set_option maxRecDepth 100000 in
set_option maxHeartbeats 4000000 in
theorem bX12_keeps_0 {x : Cx} {y : Ly} (l : Launch) (K : VK x l rmX12_keeps y 3 cX12_keeps RX12 wqX12_keeps) (hy : y.2.2.2.2 = 1) {z : Int32 × QM} (hQ : VQ x y (some (.int z.1)) z.2 (some .boolean)) {M : QM} {x1 : Int32} {x2 : Int32} (hF : fX12_keeps M x1 x2 = some z) : V x y 3 M 0 [(0, .ref (ly_o y 1000)), (1, .int x1), (2, .int x2)] [] := by
  unfold fX12_keeps at hF
  refine v_aload_n (pc := 0) K dX12_keeps_0 0 rfl ?_
  refine v_iload_n (pc := 1) K dX12_keeps_1 1 rfl ?_
  obtain ⟨r2, M3, hc1, hF⟩ := q_bE hF
  refine v_callV (pc := 2) (ci := 11) (As := [.int x1]) (rest := []) (st' := [.int r2]) (r := some (.int r2)) (M1 := M3) K (kX12_isPerson l K.2.2.2.2.2.2.1 hy hc1) (jg_V jl_X12_103 jw_i_X12_isPerson jw_s_X12_isPerson jw_n_X12 jw_c_X12_isPerson) rfl rfl rfl jd_X12_isPerson ⟨Nat.le_of_ble_eq_true rfl, Nat.le_of_ble_eq_true rfl⟩ rfl rfl (Nat.le_of_ble_eq_true rfl) (by decide) (okc_1 hy) rfl dX12_keeps_2 rfl ?_
  refine v_if_eq (pc := 5) (tgt := 21) K dX12_keeps_5 (by decide) hF (fun c9 hF => ?_) (fun c9 hF => ?_)
  · refine v_iconst (pc := 21) (v := 0) K dX12_keeps_21 rfl ?_
    have hz := (Option.some.inj hF).symm
    subst hz
    exact v_zret (pc := 22) K hQ rfl dX12_keeps_22
  · refine v_iload_n (pc := 8) K dX12_keeps_8 2 rfl ?_
    refine v_iconst (pc := 9) (v := -1) K dX12_keeps_9 rfl ?_
    refine v_icmp_eq (pc := 10) (tgt := 23) K dX12_keeps_10 (by decide) hF (fun c8 hF => ?_) (fun c8 hF => ?_)
    · exact bX12_keeps_23 l K hy hQ hF
    · refine v_aload_n (pc := 13) K dX12_keeps_13 0 rfl ?_
      refine v_iload_n (pc := 14) K dX12_keeps_14 2 rfl ?_
      obtain ⟨r5, M6, hc4, hF⟩ := q_bE hF
      refine v_callV (pc := 15) (ci := 11) (As := [.int x2]) (rest := []) (st' := [.int r5]) (r := some (.int r5)) (M1 := M6) K (kX12_isCode l K.2.2.2.2.2.2.1 hy hc4) (jg_V jl_X12_286 jw_i_X12_isCode jw_s_X12_isCode jw_n_X12 jw_c_X12_isCode) rfl rfl rfl jd_X12_isCode ⟨Nat.le_of_ble_eq_true rfl, Nat.le_of_ble_eq_true rfl⟩ rfl rfl (Nat.le_of_ble_eq_true rfl) (by decide) (okc_1 hy) rfl dX12_keeps_15 rfl ?_
      refine v_if_ne (pc := 18) (tgt := 23) K dX12_keeps_18 (by decide) hF (fun c7 hF => ?_) (fun c7 hF => ?_)
      · exact bX12_keeps_23 l K hy hQ hF
      · refine v_iconst (pc := 21) (v := 0) K dX12_keeps_21 rfl ?_
        have hz := (Option.some.inj hF).symm
        subst hz
        exact v_zret (pc := 22) K hQ rfl dX12_keeps_22
set_option maxRecDepth 100000 in
set_option maxHeartbeats 4000000 in
theorem kX12_keeps (l : Launch) {y : Ly} (hJ : ly_J y) (hy : y.2.2.2.2 = 1) {M M1 : QM} {r : Int32} {x1 : Int32} {x2 : Int32} (hF : fX12_keeps M x1 x2 = some (r, M1)) : Met l yX12_keeps wqX12_keeps rmX12_keeps (q_P y [.ref (ly_o y 1000), .int x1, .int x2] M) (q_E y (some (.int r)) M1) 0 0 (ly_A y) :=
  q_met (by decide) rfl hJ rfl rfl rfl (fun x K hQ => bX12_keeps_0 l K hy (z := (r, M1)) hQ  hF)
-- ===== X12_told (II)I
theorem jd_X12_told : yX12_told.cls = RX12 ∧ yX12_told.cls ≠ "java/lang/invoke/MethodHandle" ∧ yX12_told.cls ≠ "java/lang/invoke/VarHandle" ∧ (parseMethodDescriptor yX12_told.desc).map (fun d => d.parameters.length) = some 2 := by decide +kernel
abbrev wqX12_told : List Cond := .code yX12_told cX12_told 3 (some .int) :: wsL_law
abbrev rmX12_told : Room := { frames := 1, cells := 0, slots := 0, locals := 25 }
def fX12_told (M : QM) (x1 : Int32) (x2 : Int32) : Option (Int32 × QM) := (q_b (fX12_isCode M x1) fun r2 M3 => if r2 = (0 : Int32) then some ((-1 : Int32), M3) else (q_b (fX12_in M3 (Int32.toInt64 x2) (0 : Int64) (3 : Int64)) fun r5 M6 => if r5 ≠ (0 : Int32) then if x2 ≠ (0 : Int32) then if x2 ≠ (1 : Int32) then if x2 ≠ (2 : Int32) then (if q_in x1 6 then some (q_a M6 1000 10 x1.toNatClampNeg, M6) else none) else (if q_in x1 6 then some (q_a M6 1000 13 x1.toNatClampNeg, M6) else none) else (if q_in x1 6 then some (q_a M6 1000 12 x1.toNatClampNeg, M6) else none) else (if q_in x1 6 then some (q_a M6 1000 11 x1.toNatClampNeg, M6) else none) else some ((-1 : Int32), M6)))
set_option maxRecDepth 100000 in
set_option maxHeartbeats 4000000 in
theorem bX12_told_0 {x : Cx} {y : Ly} (l : Launch) (K : VK x l rmX12_told y 3 cX12_told RX12 wqX12_told) (hy : y.2.2.2.2 = 1) {z : Int32 × QM} (hQ : VQ x y (some (.int z.1)) z.2 (some .int)) {M : QM} {x1 : Int32} {x2 : Int32} (hF : fX12_told M x1 x2 = some z) : V x y 3 M 0 [(0, .ref (ly_o y 1000)), (1, .int x1), (2, .int x2)] [] := by
  unfold fX12_told at hF
  refine v_aload_n (pc := 0) K dX12_told_0 0 rfl ?_
  refine v_iload_n (pc := 1) K dX12_told_1 1 rfl ?_
  obtain ⟨r2, M3, hc1, hF⟩ := q_bE hF
  refine v_callV (pc := 2) (ci := 11) (As := [.int x1]) (rest := []) (st' := [.int r2]) (r := some (.int r2)) (M1 := M3) K (kX12_isCode l K.2.2.2.2.2.2.1 hy hc1) (jg_V jl_X12_286 jw_i_X12_isCode jw_s_X12_isCode jw_n_X12 jw_c_X12_isCode) rfl rfl rfl jd_X12_isCode ⟨Nat.le_of_ble_eq_true rfl, Nat.le_of_ble_eq_true rfl⟩ rfl rfl (Nat.le_of_ble_eq_true rfl) (by decide) (okc_1 hy) rfl dX12_told_2 rfl ?_
  refine v_if_eq (pc := 5) (tgt := 20) K dX12_told_5 (by decide) hF (fun c15 hF => ?_) (fun c15 hF => ?_)
  · refine v_iconst (pc := 20) (v := -1) K dX12_told_20 rfl ?_
    have hz := (Option.some.inj hF).symm
    subst hz
    exact v_iret (pc := 21) K hQ dX12_told_21
  · refine v_iload_n (pc := 8) K dX12_told_8 2 rfl ?_
    refine v_i2l (pc := 9) K dX12_told_9 ?_
    refine v_lconst (pc := 10) (v := 0) K dX12_told_10 rfl ?_
    refine v_ldc2 (pc := 11) (v := 3) K dX12_told_11 (List.mem_cons_of_mem _ jl_X12_289) ?_
    obtain ⟨r5, M6, hc4, hF⟩ := q_bE hF
    refine v_callS (pc := 14) (As := [.long (Int32.toInt64 x2), .long (0 : Int64), .long (3 : Int64)]) (rest := []) (st' := [.int r5]) (r := some (.int r5)) (M1 := M6) K (kX12_in l K.2.2.2.2.2.2.1 hy hc4) (jg_S jl_X12_97 jw_t_X12_in jw_n_X12 jw_c_X12_in) rfl rfl rfl jd_X12_in ⟨Nat.le_of_ble_eq_true rfl, Nat.le_of_ble_eq_true rfl⟩ rfl rfl (Nat.le_of_ble_eq_true rfl) dX12_told_14 rfl ?_
    refine v_if_ne (pc := 17) (tgt := 22) K dX12_told_17 (by decide) hF (fun c14 hF => ?_) (fun c14 hF => ?_)
    · refine v_iload_n (pc := 22) K dX12_told_22 2 rfl ?_
      refine v_if_ne (pc := 23) (tgt := 35) K dX12_told_23 (by decide) hF (fun c13 hF => ?_) (fun c13 hF => ?_)
      · refine v_iload_n (pc := 35) K dX12_told_35 2 rfl ?_
        refine v_iconst (pc := 36) (v := 1) K dX12_told_36 rfl ?_
        refine v_icmp_ne (pc := 37) (tgt := 49) K dX12_told_37 (by decide) hF (fun c11 hF => ?_) (fun c11 hF => ?_)
        · refine v_iload_n (pc := 49) K dX12_told_49 2 rfl ?_
          refine v_iconst (pc := 50) (v := 2) K dX12_told_50 rfl ?_
          refine v_icmp_ne (pc := 51) (tgt := 63) K dX12_told_51 (by decide) hF (fun c9 hF => ?_) (fun c9 hF => ?_)
          · refine v_aload_n (pc := 63) K dX12_told_63 0 rfl ?_
            refine gX12_all (pc := 64) K hy (by decide) jn_X12 (List.mem_cons_of_mem _ jl_X12_32) dX12_told_64 ?_
            refine v_iload_n (pc := 67) K dX12_told_67 1 rfl ?_
            refine iX12_all (pc := 68) K hy (by decide) hF dX12_told_68 (fun hi7 hF => ?_)
            have hz := (Option.some.inj hF).symm
            subst hz
            exact v_iret (pc := 69) K hQ dX12_told_69
          · refine v_aload_n (pc := 54) K dX12_told_54 0 rfl ?_
            refine gX12_must (pc := 55) K hy (by decide) jn_X12 (List.mem_cons_of_mem _ jl_X12_41) dX12_told_55 ?_
            refine v_iload_n (pc := 58) K dX12_told_58 1 rfl ?_
            refine iX12_must (pc := 59) K hy (by decide) hF dX12_told_59 (fun hi8 hF => ?_)
            refine v_goto (pc := 60) (tgt := 69) K dX12_told_60 (by decide) ?_
            have hz := (Option.some.inj hF).symm
            subst hz
            exact v_iret (pc := 69) K hQ dX12_told_69
        · refine v_aload_n (pc := 40) K dX12_told_40 0 rfl ?_
          refine gX12_hours (pc := 41) K hy (by decide) jn_X12 (List.mem_cons_of_mem _ jl_X12_38) dX12_told_41 ?_
          refine v_iload_n (pc := 44) K dX12_told_44 1 rfl ?_
          refine iX12_hours (pc := 45) K hy (by decide) hF dX12_told_45 (fun hi10 hF => ?_)
          refine v_goto (pc := 46) (tgt := 69) K dX12_told_46 (by decide) ?_
          have hz := (Option.some.inj hF).symm
          subst hz
          exact v_iret (pc := 69) K hQ dX12_told_69
      · refine v_aload_n (pc := 26) K dX12_told_26 0 rfl ?_
        refine gX12_ask (pc := 27) K hy (by decide) jn_X12 (List.mem_cons_of_mem _ jl_X12_35) dX12_told_27 ?_
        refine v_iload_n (pc := 30) K dX12_told_30 1 rfl ?_
        refine iX12_ask (pc := 31) K hy (by decide) hF dX12_told_31 (fun hi12 hF => ?_)
        refine v_goto (pc := 32) (tgt := 69) K dX12_told_32 (by decide) ?_
        have hz := (Option.some.inj hF).symm
        subst hz
        exact v_iret (pc := 69) K hQ dX12_told_69
    · refine v_iconst (pc := 20) (v := -1) K dX12_told_20 rfl ?_
      have hz := (Option.some.inj hF).symm
      subst hz
      exact v_iret (pc := 21) K hQ dX12_told_21
set_option maxRecDepth 100000 in
set_option maxHeartbeats 4000000 in
theorem kX12_told (l : Launch) {y : Ly} (hJ : ly_J y) (hy : y.2.2.2.2 = 1) {M M1 : QM} {r : Int32} {x1 : Int32} {x2 : Int32} (hF : fX12_told M x1 x2 = some (r, M1)) : Met l yX12_told wqX12_told rmX12_told (q_P y [.ref (ly_o y 1000), .int x1, .int x2] M) (q_E y (some (.int r)) M1) 0 0 (ly_A y) :=
  q_met (by decide) rfl hJ rfl rfl rfl (fun x K hQ => bX12_told_0 l K hy (z := (r, M1)) hQ  hF)
-- ===== X12_push (I)V
theorem jd_X12_push : yX12_push.cls = RX12 ∧ yX12_push.cls ≠ "java/lang/invoke/MethodHandle" ∧ yX12_push.cls ≠ "java/lang/invoke/VarHandle" ∧ (parseMethodDescriptor yX12_push.desc).map (fun d => d.parameters.length) = some 1 := by decide +kernel
abbrev wqX12_push : List Cond := .code yX12_push cX12_push 2 none :: wsL_law
abbrev rmX12_push : Room := { frames := 0, cells := 0, slots := 0, locals := 0 }
def fX12_push (M : QM) (x1 : Int32) : Option QM := (if q_in (q_i M 1000 24) 64 then (q_t (p_a M 1000 23 (q_i M 1000 24).toNatClampNeg x1) fun M2 => (q_t (p_i M2 1000 24 ((q_i M2 1000 24) + (1 : Int32))) fun M3 => some M3)) else none)
set_option maxRecDepth 100000 in
set_option maxHeartbeats 4000000 in
theorem bX12_push_0 {x : Cx} {y : Ly} (l : Launch) (K : VK x l rmX12_push y 2 cX12_push RX12 wqX12_push) (hy : y.2.2.2.2 = 1) {z : QM} (hQ : VQ x y none z none) {M : QM} {x1 : Int32} (hF : fX12_push M x1 = some z) : V x y 2 M 0 [(0, .ref (ly_o y 1000)), (1, .int x1)] [] := by
  unfold fX12_push at hF
  refine v_aload_n (pc := 0) K dX12_push_0 0 rfl ?_
  refine gX12_stack (pc := 1) K hy (by decide) jn_X12 (List.mem_cons_of_mem _ jl_X12_50) dX12_push_1 ?_
  refine v_aload_n (pc := 4) K dX12_push_4 0 rfl ?_
  refine gX12_top (pc := 5) K hy (by decide) jn_X12 (List.mem_cons_of_mem _ jl_X12_291) dX12_push_5 ?_
  refine v_iload_n (pc := 8) K dX12_push_8 1 rfl ?_
  refine uX12_stack (pc := 9) K hy (by decide) hF dX12_push_9 (fun hi1 hF => ?_)
  refine v_nmM hF (fun M2 hF => ?_)
  refine v_aload_n (pc := 10) K dX12_push_10 0 rfl ?_
  refine v_dup (pc := 11) K dX12_push_11 rfl ?_
  refine gX12_top (pc := 12) K hy (by decide) jn_X12 (List.mem_cons_of_mem _ jl_X12_291) dX12_push_12 ?_
  refine v_iconst (pc := 15) (v := 1) K dX12_push_15 rfl ?_
  refine v_iadd (pc := 16) K dX12_push_16 ?_
  refine pX12_top (pc := 17) K hy (by decide) jn_X12 (List.mem_cons_of_mem _ jl_X12_291) dX12_push_17 ?_
  refine v_nmM hF (fun M3 hF => ?_)
  have hz := (Option.some.inj hF).symm
  subst hz
  exact v_vret (pc := 20) K hQ dX12_push_20
set_option maxRecDepth 100000 in
set_option maxHeartbeats 4000000 in
theorem kX12_push (l : Launch) {y : Ly} (hJ : ly_J y) (hy : y.2.2.2.2 = 1) {M M1 : QM} {x1 : Int32} (hF : fX12_push M x1 = some M1) : Met l yX12_push wqX12_push rmX12_push (q_P y [.ref (ly_o y 1000), .int x1] M) (q_E y none M1) 0 0 (ly_A y) :=
  q_met (by decide) rfl hJ rfl rfl rfl (fun x K hQ => bX12_push_0 l K hy (z := M1) hQ  hF)
-- ===== X12_pop ()I
theorem jd_X12_pop : yX12_pop.cls = RX12 ∧ yX12_pop.cls ≠ "java/lang/invoke/MethodHandle" ∧ yX12_pop.cls ≠ "java/lang/invoke/VarHandle" ∧ (parseMethodDescriptor yX12_pop.desc).map (fun d => d.parameters.length) = some 0 := by decide +kernel
abbrev wqX12_pop : List Cond := .code yX12_pop cX12_pop 1 (some .int) :: wsL_law
abbrev rmX12_pop : Room := { frames := 0, cells := 0, slots := 0, locals := 0 }
def fX12_pop (M : QM) : Option (Int32 × QM) := (q_t (p_i M 1000 24 ((q_i M 1000 24) - (1 : Int32))) fun M1 => (if q_in (q_i M1 1000 24) 64 then some (q_a M1 1000 23 (q_i M1 1000 24).toNatClampNeg, M1) else none))
set_option maxRecDepth 100000 in
set_option maxHeartbeats 4000000 in
theorem bX12_pop_0 {x : Cx} {y : Ly} (l : Launch) (K : VK x l rmX12_pop y 1 cX12_pop RX12 wqX12_pop) (hy : y.2.2.2.2 = 1) {z : Int32 × QM} (hQ : VQ x y (some (.int z.1)) z.2 (some .int)) {M : QM} (hF : fX12_pop M  = some z) : V x y 1 M 0 [(0, .ref (ly_o y 1000))] [] := by
  unfold fX12_pop at hF
  refine v_aload_n (pc := 0) K dX12_pop_0 0 rfl ?_
  refine v_dup (pc := 1) K dX12_pop_1 rfl ?_
  refine gX12_top (pc := 2) K hy (by decide) jn_X12 (List.mem_cons_of_mem _ jl_X12_291) dX12_pop_2 ?_
  refine v_iconst (pc := 5) (v := 1) K dX12_pop_5 rfl ?_
  refine v_isub (pc := 6) K dX12_pop_6 ?_
  refine pX12_top (pc := 7) K hy (by decide) jn_X12 (List.mem_cons_of_mem _ jl_X12_291) dX12_pop_7 ?_
  refine v_nmM hF (fun M1 hF => ?_)
  refine v_aload_n (pc := 10) K dX12_pop_10 0 rfl ?_
  refine gX12_stack (pc := 11) K hy (by decide) jn_X12 (List.mem_cons_of_mem _ jl_X12_50) dX12_pop_11 ?_
  refine v_aload_n (pc := 14) K dX12_pop_14 0 rfl ?_
  refine gX12_top (pc := 15) K hy (by decide) jn_X12 (List.mem_cons_of_mem _ jl_X12_291) dX12_pop_15 ?_
  refine iX12_stack (pc := 18) K hy (by decide) hF dX12_pop_18 (fun hi2 hF => ?_)
  have hz := (Option.some.inj hF).symm
  subst hz
  exact v_iret (pc := 19) K hQ dX12_pop_19
set_option maxRecDepth 100000 in
set_option maxHeartbeats 4000000 in
theorem kX12_pop (l : Launch) {y : Ly} (hJ : ly_J y) (hy : y.2.2.2.2 = 1) {M M1 : QM} {r : Int32} (hF : fX12_pop M  = some (r, M1)) : Met l yX12_pop wqX12_pop rmX12_pop (q_P y [.ref (ly_o y 1000)] M) (q_E y (some (.int r)) M1) 0 0 (ly_A y) :=
  q_met (by decide) rfl hJ rfl rfl rfl (fun x K hQ => bX12_pop_0 l K hy (z := (r, M1)) hQ  hF)
-- ===== X12_compared (III)I
theorem jd_X12_compared : yX12_compared.cls ≠ "java/lang/invoke/MethodHandle" ∧ yX12_compared.cls ≠ "java/lang/invoke/VarHandle" ∧ (parseMethodDescriptor yX12_compared.desc).map (fun d => d.parameters.length) = some 3 := by decide +kernel
abbrev wqX12_compared : List Cond := .code yX12_compared cX12_compared 4 (some .int) :: wsL_law
abbrev rmX12_compared : Room := { frames := 0, cells := 0, slots := 0, locals := 0 }
def fX12_compared_b84 (M : QM) (s0 : Int32) : Option (Int32 × QM) := if s0 = (0 : Int32) then some ((0 : Int32), M) else some ((1 : Int32), M)
set_option maxRecDepth 100000 in
set_option maxHeartbeats 4000000 in
theorem bX12_compared_84 {x : Cx} {y : Ly} (l : Launch) (K : VK x l rmX12_compared y 4 cX12_compared RX12 wqX12_compared) (hy : y.2.2.2.2 = 1) {z : Int32 × QM} (hQ : VQ x y (some (.int z.1)) z.2 (some .int)) {M : QM} {s0 : Int32} (hF : fX12_compared_b84 M s0 = some z) : V x y 4 M 84 [] [.int s0] := by
  unfold fX12_compared_b84 at hF
  refine v_istore_n (pc := 84) (lv' := [(3, .int s0)]) K dX12_compared_84 3 rfl (by decide) rfl ?_
  refine v_iload_n (pc := 85) K dX12_compared_85 0 rfl ?_
  refine v_if_eq (pc := 86) (tgt := 93) K dX12_compared_86 (by decide) hF (fun c10 hF => ?_) (fun c10 hF => ?_)
  · refine v_iconst (pc := 93) (v := 0) K dX12_compared_93 rfl ?_
    have hz := (Option.some.inj hF).symm
    subst hz
    exact v_iret (pc := 94) K hQ dX12_compared_94
  · refine v_iconst (pc := 89) (v := 1) K dX12_compared_89 rfl ?_
    refine v_goto (pc := 90) (tgt := 94) K dX12_compared_90 (by decide) ?_
    have hz := (Option.some.inj hF).symm
    subst hz
    exact v_iret (pc := 94) K hQ dX12_compared_94
def fX12_compared (M : QM) (x0 : Int32) (x1 : Int32) (x2 : Int32) : Option (Int32 × QM) := if x0 ≠ (4 : Int32) then if x0 ≠ (5 : Int32) then if x0 ≠ (6 : Int32) then if x0 ≠ (7 : Int32) then if x1 ≤ x2 then (fX12_compared_b84 M (0 : Int32)) else (fX12_compared_b84 M (1 : Int32)) else if x1 < x2 then (fX12_compared_b84 M (0 : Int32)) else (fX12_compared_b84 M (1 : Int32)) else if x1 ≠ x2 then (fX12_compared_b84 M (0 : Int32)) else (fX12_compared_b84 M (1 : Int32)) else if x2 < x1 then (fX12_compared_b84 M (0 : Int32)) else (fX12_compared_b84 M (1 : Int32)) else if x2 ≤ x1 then (fX12_compared_b84 M (0 : Int32)) else (fX12_compared_b84 M (1 : Int32))
set_option maxRecDepth 100000 in
set_option maxHeartbeats 4000000 in
theorem bX12_compared_0 {x : Cx} {y : Ly} (l : Launch) (K : VK x l rmX12_compared y 4 cX12_compared RX12 wqX12_compared) (hy : y.2.2.2.2 = 1) {z : Int32 × QM} (hQ : VQ x y (some (.int z.1)) z.2 (some .int)) {M : QM} {x0 : Int32} {x1 : Int32} {x2 : Int32} (hF : fX12_compared M x0 x1 x2 = some z) : V x y 4 M 0 [(0, .int x0), (1, .int x1), (2, .int x2)] [] := by
  unfold fX12_compared at hF
  refine v_iload_n (pc := 0) K dX12_compared_0 0 rfl ?_
  refine v_iconst (pc := 1) (v := 4) K dX12_compared_1 rfl ?_
  refine v_icmp_ne (pc := 2) (tgt := 18) K dX12_compared_2 (by decide) hF (fun c9 hF => ?_) (fun c9 hF => ?_)
  · refine v_iload_n (pc := 18) K dX12_compared_18 0 rfl ?_
    refine v_iconst (pc := 19) (v := 5) K dX12_compared_19 rfl ?_
    refine v_icmp_ne (pc := 20) (tgt := 36) K dX12_compared_20 (by decide) hF (fun c7 hF => ?_) (fun c7 hF => ?_)
    · refine v_iload_n (pc := 36) K dX12_compared_36 0 rfl ?_
      refine v_bipush (pc := 37) (v := 6) K dX12_compared_37 rfl ?_
      refine v_icmp_ne (pc := 39) (tgt := 55) K dX12_compared_39 (by decide) hF (fun c5 hF => ?_) (fun c5 hF => ?_)
      · refine v_iload_n (pc := 55) K dX12_compared_55 0 rfl ?_
        refine v_bipush (pc := 56) (v := 7) K dX12_compared_56 rfl ?_
        refine v_icmp_ne (pc := 58) (tgt := 74) K dX12_compared_58 (by decide) hF (fun c3 hF => ?_) (fun c3 hF => ?_)
        · refine v_iload_n (pc := 74) K dX12_compared_74 1 rfl ?_
          refine v_iload_n (pc := 75) K dX12_compared_75 2 rfl ?_
          refine v_icmp_le (pc := 76) (tgt := 83) K dX12_compared_76 (by decide) hF (fun c1 hF => ?_) (fun c1 hF => ?_)
          · refine v_iconst (pc := 83) (v := 0) K dX12_compared_83 rfl ?_
            refine v_sub [] rfl ?_
            exact bX12_compared_84 l K hy hQ hF
          · refine v_iconst (pc := 79) (v := 1) K dX12_compared_79 rfl ?_
            refine v_goto (pc := 80) (tgt := 84) K dX12_compared_80 (by decide) ?_
            refine v_sub [] rfl ?_
            exact bX12_compared_84 l K hy hQ hF
        · refine v_iload_n (pc := 61) K dX12_compared_61 1 rfl ?_
          refine v_iload_n (pc := 62) K dX12_compared_62 2 rfl ?_
          refine v_icmp_lt (pc := 63) (tgt := 70) K dX12_compared_63 (by decide) hF (fun c2 hF => ?_) (fun c2 hF => ?_)
          · refine v_iconst (pc := 70) (v := 0) K dX12_compared_70 rfl ?_
            refine v_goto (pc := 71) (tgt := 84) K dX12_compared_71 (by decide) ?_
            refine v_sub [] rfl ?_
            exact bX12_compared_84 l K hy hQ hF
          · refine v_iconst (pc := 66) (v := 1) K dX12_compared_66 rfl ?_
            refine v_goto (pc := 67) (tgt := 84) K dX12_compared_67 (by decide) ?_
            refine v_sub [] rfl ?_
            exact bX12_compared_84 l K hy hQ hF
      · refine v_iload_n (pc := 42) K dX12_compared_42 1 rfl ?_
        refine v_iload_n (pc := 43) K dX12_compared_43 2 rfl ?_
        refine v_icmp_ne (pc := 44) (tgt := 51) K dX12_compared_44 (by decide) hF (fun c4 hF => ?_) (fun c4 hF => ?_)
        · refine v_iconst (pc := 51) (v := 0) K dX12_compared_51 rfl ?_
          refine v_goto (pc := 52) (tgt := 84) K dX12_compared_52 (by decide) ?_
          refine v_sub [] rfl ?_
          exact bX12_compared_84 l K hy hQ hF
        · refine v_iconst (pc := 47) (v := 1) K dX12_compared_47 rfl ?_
          refine v_goto (pc := 48) (tgt := 84) K dX12_compared_48 (by decide) ?_
          refine v_sub [] rfl ?_
          exact bX12_compared_84 l K hy hQ hF
    · refine v_iload_n (pc := 23) K dX12_compared_23 1 rfl ?_
      refine v_iload_n (pc := 24) K dX12_compared_24 2 rfl ?_
      refine v_icmp_gt (pc := 25) (tgt := 32) K dX12_compared_25 (by decide) hF (fun c6 hF => ?_) (fun c6 hF => ?_)
      · refine v_iconst (pc := 32) (v := 0) K dX12_compared_32 rfl ?_
        refine v_goto (pc := 33) (tgt := 84) K dX12_compared_33 (by decide) ?_
        refine v_sub [] rfl ?_
        exact bX12_compared_84 l K hy hQ hF
      · refine v_iconst (pc := 28) (v := 1) K dX12_compared_28 rfl ?_
        refine v_goto (pc := 29) (tgt := 84) K dX12_compared_29 (by decide) ?_
        refine v_sub [] rfl ?_
        exact bX12_compared_84 l K hy hQ hF
  · refine v_iload_n (pc := 5) K dX12_compared_5 1 rfl ?_
    refine v_iload_n (pc := 6) K dX12_compared_6 2 rfl ?_
    refine v_icmp_ge (pc := 7) (tgt := 14) K dX12_compared_7 (by decide) hF (fun c8 hF => ?_) (fun c8 hF => ?_)
    · refine v_iconst (pc := 14) (v := 0) K dX12_compared_14 rfl ?_
      refine v_goto (pc := 15) (tgt := 84) K dX12_compared_15 (by decide) ?_
      refine v_sub [] rfl ?_
      exact bX12_compared_84 l K hy hQ hF
    · refine v_iconst (pc := 10) (v := 1) K dX12_compared_10 rfl ?_
      refine v_goto (pc := 11) (tgt := 84) K dX12_compared_11 (by decide) ?_
      refine v_sub [] rfl ?_
      exact bX12_compared_84 l K hy hQ hF
set_option maxRecDepth 100000 in
set_option maxHeartbeats 4000000 in
theorem kX12_compared (l : Launch) {y : Ly} (hJ : ly_J y) (hy : y.2.2.2.2 = 1) {M M1 : QM} {r : Int32} {x0 : Int32} {x1 : Int32} {x2 : Int32} (hF : fX12_compared M x0 x1 x2 = some (r, M1)) : Met l yX12_compared wqX12_compared rmX12_compared (q_P y [.int x0, .int x1, .int x2] M) (q_E y (some (.int r)) M1) 0 0 (ly_A y) :=
  q_met (by decide) rfl hJ rfl rfl rfl (fun x K hQ => bX12_compared_0 l K hy (z := (r, M1)) hQ  hF)
-- ===== X12_isTrue (III)Z
theorem jd_X12_isTrue : yX12_isTrue.cls = RX12 ∧ yX12_isTrue.cls ≠ "java/lang/invoke/MethodHandle" ∧ yX12_isTrue.cls ≠ "java/lang/invoke/VarHandle" ∧ (parseMethodDescriptor yX12_isTrue.desc).map (fun d => d.parameters.length) = some 3 := by decide +kernel
abbrev wqX12_isTrue : List Cond := .code yX12_isTrue cX12_isTrue 9 (some .boolean) :: wsL_law
abbrev rmX12_isTrue : Room := { frames := 1, cells := 0, slots := 0, locals := 23 }
def fX12_isTrue_b186 (k8 : QM → Int32 → Int32 → Int32 → Option (Int32 × QM)) (M : QM) (x1 : Int32) (x3 : Int32) (x4 : Int32) : Option (Int32 × QM) := (k8 M x1 x3 (x4 + (1 : Int32)))
set_option maxRecDepth 100000 in
set_option maxHeartbeats 4000000 in
theorem bX12_isTrue_186 {x : Cx} {y : Ly} (l : Launch) (K : VK x l rmX12_isTrue y 9 cX12_isTrue RX12 wqX12_isTrue) (hy : y.2.2.2.2 = 1) {z : Int32 × QM} (hQ : VQ x y (some (.int z.1)) z.2 (some .boolean)) {k8 : QM → Int32 → Int32 → Int32 → Option (Int32 × QM)} (hk8 : ∀ {M : QM} {x1 : Int32} {x3 : Int32} {x4 : Int32}, k8 M x1 x3 x4 = some z → V x y 9 M 8 [(0, .ref (ly_o y 1000)), (1, .int x1), (3, .int x3), (4, .int x4)] []) {M : QM} {x1 : Int32} {x3 : Int32} {x4 : Int32} (hF : fX12_isTrue_b186 k8 M x1 x3 x4 = some z) : V x y 9 M 186 [(0, .ref (ly_o y 1000)), (1, .int x1), (3, .int x3), (4, .int x4)] [] := by
  unfold fX12_isTrue_b186 at hF
  refine v_iinc (pc := 186) (v1 := x4 + (1 : Int32)) (lv' := [(4, .int (x4 + (1 : Int32))), (0, .ref (ly_o y 1000)), (1, .int x1), (3, .int x3)]) K dX12_isTrue_186 3 rfl rfl (by decide) rfl ?_
  refine v_goto (pc := 189) (tgt := 8) K dX12_isTrue_189 (by decide) ?_
  refine v_sub [1, 2, 3, 0] rfl ?_
  exact hk8 hF
def fX12_isTrue_b183 (k8 : QM → Int32 → Int32 → Int32 → Option (Int32 × QM)) (M : QM) (x1 : Int32) (x3 : Int32) (x4 : Int32) (s0 : Int32) : Option (Int32 × QM) := (q_bv (fX12_push M s0) fun M38 => (fX12_isTrue_b186 k8 M38 x1 x3 x4))
set_option maxRecDepth 100000 in
set_option maxHeartbeats 4000000 in
theorem bX12_isTrue_183 {x : Cx} {y : Ly} (l : Launch) (K : VK x l rmX12_isTrue y 9 cX12_isTrue RX12 wqX12_isTrue) (hy : y.2.2.2.2 = 1) {z : Int32 × QM} (hQ : VQ x y (some (.int z.1)) z.2 (some .boolean)) {k8 : QM → Int32 → Int32 → Int32 → Option (Int32 × QM)} (hk8 : ∀ {M : QM} {x1 : Int32} {x3 : Int32} {x4 : Int32}, k8 M x1 x3 x4 = some z → V x y 9 M 8 [(0, .ref (ly_o y 1000)), (1, .int x1), (3, .int x3), (4, .int x4)] []) {M : QM} {x1 : Int32} {x3 : Int32} {x4 : Int32} {s0 : Int32} (hF : fX12_isTrue_b183 k8 M x1 x3 x4 s0 = some z) : V x y 9 M 183 [(0, .ref (ly_o y 1000)), (1, .int x1), (3, .int x3), (4, .int x4)] [.int s0, .ref (ly_o y 1000)] := by
  unfold fX12_isTrue_b183 at hF
  obtain ⟨M38, hc36, hF⟩ := q_bvE hF
  refine v_callV (pc := 183) (ci := 11) (As := [.int s0]) (rest := []) (st' := []) (r := none) (M1 := M38) K (kX12_push l K.2.2.2.2.2.2.1 hy hc36) (jg_V jl_X12_294 jw_i_X12_push jw_s_X12_push jw_n_X12 jw_c_X12_push) rfl rfl rfl jd_X12_push ⟨Nat.le_of_ble_eq_true rfl, Nat.le_of_ble_eq_true rfl⟩ rfl rfl (Nat.le_of_ble_eq_true rfl) (by decide) (okc_1 hy) rfl dX12_isTrue_183 rfl ?_
  exact bX12_isTrue_186 l K hy hQ hk8 hF
def fX12_isTrue_b192 (M : QM) : Option (Int32 × QM) := (q_b (fX12_pop M) fun r40 M41 => if r40 ≠ (1 : Int32) then some ((0 : Int32), M41) else some ((1 : Int32), M41))
set_option maxRecDepth 100000 in
set_option maxHeartbeats 4000000 in
theorem bX12_isTrue_192 {x : Cx} {y : Ly} (l : Launch) (K : VK x l rmX12_isTrue y 9 cX12_isTrue RX12 wqX12_isTrue) (hy : y.2.2.2.2 = 1) {z : Int32 × QM} (hQ : VQ x y (some (.int z.1)) z.2 (some .boolean)) {M : QM} (hF : fX12_isTrue_b192 M  = some z) : V x y 9 M 192 [(0, .ref (ly_o y 1000))] [] := by
  unfold fX12_isTrue_b192 at hF
  refine v_aload_n (pc := 192) K dX12_isTrue_192 0 rfl ?_
  obtain ⟨r40, M41, hc39, hF⟩ := q_bE hF
  refine v_callV (pc := 193) (ci := 11) (As := []) (rest := []) (st' := [.int r40]) (r := some (.int r40)) (M1 := M41) K (kX12_pop l K.2.2.2.2.2.2.1 hy hc39) (jg_V jl_X12_297 jw_i_X12_pop jw_s_X12_pop jw_n_X12 jw_c_X12_pop) rfl rfl rfl jd_X12_pop ⟨Nat.le_of_ble_eq_true rfl, Nat.le_of_ble_eq_true rfl⟩ rfl rfl (Nat.le_of_ble_eq_true rfl) (by decide) (okc_1 hy) rfl dX12_isTrue_193 rfl ?_
  refine v_iconst (pc := 196) (v := 1) K dX12_isTrue_196 rfl ?_
  refine v_icmp_ne (pc := 197) (tgt := 204) K dX12_isTrue_197 (by decide) hF (fun c42 hF => ?_) (fun c42 hF => ?_)
  · refine v_iconst (pc := 204) (v := 0) K dX12_isTrue_204 rfl ?_
    have hz := (Option.some.inj hF).symm
    subst hz
    exact v_zret (pc := 205) K hQ rfl dX12_isTrue_205
  · refine v_iconst (pc := 200) (v := 1) K dX12_isTrue_200 rfl ?_
    refine v_goto (pc := 201) (tgt := 205) K dX12_isTrue_201 (by decide) ?_
    have hz := (Option.some.inj hF).symm
    subst hz
    exact v_zret (pc := 205) K hQ rfl dX12_isTrue_205
def fX12_isTrue_b8 : Nat → QM → Int32 → Int32 → Int32 → Option (Int32 × QM)
  | 0, _, _, _, _ => none
  | q + 1, M, x1, x3, x4 => if x3 ≤ x4 then (fX12_isTrue_b192 M) else (if q_in (((400 : Int32) * x1) + x4) 2400 then (q_t ((q_a M 1000 6 (((400 : Int32) * x1) + x4).toNatClampNeg) &&& (15 : Int32)) fun v3 => (if q_in (((400 : Int32) * x1) + x4) 2400 then (q_t ((q_a M 1000 6 (((400 : Int32) * x1) + x4).toNatClampNeg) >>> ((4 : Int32) &&& (31 : Int32))) fun v5 => if v3 ≠ (0 : Int32) then if v3 ≠ (1 : Int32) then if v3 ≠ (9 : Int32) then (q_b (fX12_pop M) fun r7 M8 => (q_b (fX12_pop M8) fun r10 M11 => if v3 ≠ (2 : Int32) then if v3 ≠ (3 : Int32) then if v3 ≠ (10 : Int32) then if v3 ≠ (11 : Int32) then (q_b (fX12_compared M11 v3 r10 r7) fun r13 M14 => (fX12_isTrue_b183 (fun M x1 x3 x4 => fX12_isTrue_b8 q M x1 x3 x4) M14 x1 x3 x4 r13)) else (fX12_isTrue_b183 (fun M x1 x3 x4 => fX12_isTrue_b8 q M x1 x3 x4) M11 x1 x3 x4 (r10 ||| r7)) else (fX12_isTrue_b183 (fun M x1 x3 x4 => fX12_isTrue_b8 q M x1 x3 x4) M11 x1 x3 x4 (r10 &&& r7)) else (fX12_isTrue_b183 (fun M x1 x3 x4 => fX12_isTrue_b8 q M x1 x3 x4) M11 x1 x3 x4 (r10 - r7)) else (fX12_isTrue_b183 (fun M x1 x3 x4 => fX12_isTrue_b8 q M x1 x3 x4) M11 x1 x3 x4 (r10 + r7)))) else (q_b (fX12_pop M) fun r20 M21 => (q_bv (fX12_push M21 ((1 : Int32) - r20)) fun M24 => (fX12_isTrue_b186 (fun M x1 x3 x4 => fX12_isTrue_b8 q M x1 x3 x4) M24 x1 x3 x4))) else (if q_in v5 10 then (q_bv (fX12_push M (q_a M 1000 22 v5.toNatClampNeg)) fun M29 => (fX12_isTrue_b186 (fun M x1 x3 x4 => fX12_isTrue_b8 q M x1 x3 x4) M29 x1 x3 x4)) else none) else (q_bv (fX12_push M v5) fun M33 => (fX12_isTrue_b186 (fun M x1 x3 x4 => fX12_isTrue_b8 q M x1 x3 x4) M33 x1 x3 x4))) else none)) else none)
set_option maxRecDepth 100000 in
set_option maxHeartbeats 4000000 in
theorem bX12_isTrue_8 {x : Cx} {y : Ly} (l : Launch) (K : VK x l rmX12_isTrue y 9 cX12_isTrue RX12 wqX12_isTrue) (hy : y.2.2.2.2 = 1) {z : Int32 × QM} (hQ : VQ x y (some (.int z.1)) z.2 (some .boolean)) : ∀ (q : Nat) {M : QM} {x1 : Int32} {x3 : Int32} {x4 : Int32},  fX12_isTrue_b8 q M x1 x3 x4 = some z → V x y 9 M 8 [(0, .ref (ly_o y 1000)), (1, .int x1), (3, .int x3), (4, .int x4)] [] := by
  intro q
  induction q with
  | zero =>
    intro M x1 x3 x4  hF
    rw [fX12_isTrue_b8] at hF
    cases hF
  | succ q ih =>
    intro M x1 x3 x4  hF
    rw [fX12_isTrue_b8] at hF
    refine v_iload (pc := 8) K dX12_isTrue_8 3 rfl ?_
    refine v_iload_n (pc := 10) K dX12_isTrue_10 2 rfl ?_
    refine v_icmp_ge (pc := 11) (tgt := 192) K dX12_isTrue_11 (by decide) hF (fun c35 hF => ?_) (fun c35 hF => ?_)
    · refine v_sub [0] rfl ?_
      exact bX12_isTrue_192 l K hy hQ hF
    · refine v_aload_n (pc := 14) K dX12_isTrue_14 0 rfl ?_
      refine gX12_row (pc := 15) K hy (by decide) jn_X12 (List.mem_cons_of_mem _ jl_X12_20) dX12_isTrue_15 ?_
      refine v_sipush (pc := 18) (v := 400) K dX12_isTrue_18 rfl ?_
      refine v_iload_n (pc := 21) K dX12_isTrue_21 1 rfl ?_
      refine v_imul (pc := 22) K dX12_isTrue_22 ?_
      refine v_iload (pc := 23) K dX12_isTrue_23 3 rfl ?_
      refine v_iadd (pc := 25) K dX12_isTrue_25 ?_
      refine iX12_row (pc := 26) K hy (by decide) hF dX12_isTrue_26 (fun hi2 hF => ?_)
      refine v_bipush (pc := 27) (v := 15) K dX12_isTrue_27 rfl ?_
      refine v_iand (pc := 29) K dX12_isTrue_29 ?_
      refine v_nmI hF (fun v3 hF => ?_)
      refine v_istore (pc := 30) (lv' := [(5, .int v3), (0, .ref (ly_o y 1000)), (1, .int x1), (3, .int x3), (4, .int x4)]) K 5 dX12_isTrue_30 (by decide) rfl ?_
      refine v_aload_n (pc := 32) K dX12_isTrue_32 1 rfl ?_
      refine gX12_row (pc := 33) K hy (by decide) jn_X12 (List.mem_cons_of_mem _ jl_X12_20) dX12_isTrue_33 ?_
      refine v_sipush (pc := 36) (v := 400) K dX12_isTrue_36 rfl ?_
      refine v_iload_n (pc := 39) K dX12_isTrue_39 2 rfl ?_
      refine v_imul (pc := 40) K dX12_isTrue_40 ?_
      refine v_iload (pc := 41) K dX12_isTrue_41 4 rfl ?_
      refine v_iadd (pc := 43) K dX12_isTrue_43 ?_
      refine iX12_row (pc := 44) K hy (by decide) hF dX12_isTrue_44 (fun hi4 hF => ?_)
      refine v_iconst (pc := 45) (v := 4) K dX12_isTrue_45 rfl ?_
      refine v_ishr (pc := 46) K dX12_isTrue_46 ?_
      refine v_nmI hF (fun v5 hF => ?_)
      refine v_istore (pc := 47) (lv' := [(6, .int v5), (5, .int v3), (0, .ref (ly_o y 1000)), (1, .int x1), (3, .int x3), (4, .int x4)]) K 6 dX12_isTrue_47 (by decide) rfl ?_
      refine v_iload (pc := 49) K dX12_isTrue_49 1 rfl ?_
      refine v_if_ne (pc := 51) (tgt := 63) K dX12_isTrue_51 (by decide) hF (fun c34 hF => ?_) (fun c34 hF => ?_)
      · refine v_iload (pc := 63) K dX12_isTrue_63 1 rfl ?_
        refine v_iconst (pc := 65) (v := 1) K dX12_isTrue_65 rfl ?_
        refine v_icmp_ne (pc := 66) (tgt := 83) K dX12_isTrue_66 (by decide) hF (fun c30 hF => ?_) (fun c30 hF => ?_)
        · refine v_iload (pc := 83) K dX12_isTrue_83 1 rfl ?_
          refine v_bipush (pc := 85) (v := 9) K dX12_isTrue_85 rfl ?_
          refine v_icmp_ne (pc := 87) (tgt := 103) K dX12_isTrue_87 (by decide) hF (fun c25 hF => ?_) (fun c25 hF => ?_)
          · refine v_aload_n (pc := 103) K dX12_isTrue_103 2 rfl ?_
            obtain ⟨r7, M8, hc6, hF⟩ := q_bE hF
            refine v_callV (pc := 104) (ci := 11) (As := []) (rest := []) (st' := [.int r7]) (r := some (.int r7)) (M1 := M8) K (kX12_pop l K.2.2.2.2.2.2.1 hy hc6) (jg_V jl_X12_297 jw_i_X12_pop jw_s_X12_pop jw_n_X12 jw_c_X12_pop) rfl rfl rfl jd_X12_pop ⟨Nat.le_of_ble_eq_true rfl, Nat.le_of_ble_eq_true rfl⟩ rfl rfl (Nat.le_of_ble_eq_true rfl) (by decide) (okc_1 hy) rfl dX12_isTrue_104 rfl ?_
            refine v_istore (pc := 107) (lv' := [(7, .int r7), (6, .int v5), (5, .int v3), (0, .ref (ly_o y 1000)), (1, .int x1), (3, .int x3), (4, .int x4)]) K 7 dX12_isTrue_107 (by decide) rfl ?_
            refine v_aload_n (pc := 109) K dX12_isTrue_109 3 rfl ?_
            obtain ⟨r10, M11, hc9, hF⟩ := q_bE hF
            refine v_callV (pc := 110) (ci := 11) (As := []) (rest := []) (st' := [.int r10]) (r := some (.int r10)) (M1 := M11) K (kX12_pop l K.2.2.2.2.2.2.1 hy hc9) (jg_V jl_X12_297 jw_i_X12_pop jw_s_X12_pop jw_n_X12 jw_c_X12_pop) rfl rfl rfl jd_X12_pop ⟨Nat.le_of_ble_eq_true rfl, Nat.le_of_ble_eq_true rfl⟩ rfl rfl (Nat.le_of_ble_eq_true rfl) (by decide) (okc_1 hy) rfl dX12_isTrue_110 rfl ?_
            refine v_istore (pc := 113) (lv' := [(8, .int r10), (7, .int r7), (6, .int v5), (5, .int v3), (0, .ref (ly_o y 1000)), (1, .int x1), (3, .int x3), (4, .int x4)]) K 8 dX12_isTrue_113 (by decide) rfl ?_
            refine v_aload_n (pc := 115) K dX12_isTrue_115 4 rfl ?_
            refine v_iload (pc := 116) K dX12_isTrue_116 3 rfl ?_
            refine v_iconst (pc := 118) (v := 2) K dX12_isTrue_118 rfl ?_
            refine v_icmp_ne (pc := 119) (tgt := 130) K dX12_isTrue_119 (by decide) hF (fun c18 hF => ?_) (fun c18 hF => ?_)
            · refine v_iload (pc := 130) K dX12_isTrue_130 3 rfl ?_
              refine v_iconst (pc := 132) (v := 3) K dX12_isTrue_132 rfl ?_
              refine v_icmp_ne (pc := 133) (tgt := 144) K dX12_isTrue_133 (by decide) hF (fun c17 hF => ?_) (fun c17 hF => ?_)
              · refine v_iload (pc := 144) K dX12_isTrue_144 3 rfl ?_
                refine v_bipush (pc := 146) (v := 10) K dX12_isTrue_146 rfl ?_
                refine v_icmp_ne (pc := 148) (tgt := 159) K dX12_isTrue_148 (by decide) hF (fun c16 hF => ?_) (fun c16 hF => ?_)
                · refine v_iload (pc := 159) K dX12_isTrue_159 3 rfl ?_
                  refine v_bipush (pc := 161) (v := 11) K dX12_isTrue_161 rfl ?_
                  refine v_icmp_ne (pc := 163) (tgt := 174) K dX12_isTrue_163 (by decide) hF (fun c15 hF => ?_) (fun c15 hF => ?_)
                  · refine v_iload (pc := 174) K dX12_isTrue_174 3 rfl ?_
                    refine v_iload (pc := 176) K dX12_isTrue_176 0 rfl ?_
                    refine v_iload (pc := 178) K dX12_isTrue_178 1 rfl ?_
                    obtain ⟨r13, M14, hc12, hF⟩ := q_bE hF
                    refine v_callS (pc := 180) (As := [.int v3, .int r10, .int r7]) (rest := [.ref (ly_o y 1000)]) (st' := [.int r13, .ref (ly_o y 1000)]) (r := some (.int r13)) (M1 := M14) K (kX12_compared l K.2.2.2.2.2.2.1 hy hc12) (jg_S jl_X12_300 jw_t_X12_compared jw_n_X12 jw_c_X12_compared) rfl rfl rfl jd_X12_compared ⟨Nat.le_of_ble_eq_true rfl, Nat.le_of_ble_eq_true rfl⟩ rfl rfl (Nat.le_of_ble_eq_true rfl) dX12_isTrue_180 rfl ?_
                    refine v_sub [4, 5, 6, 7] rfl ?_
                    exact bX12_isTrue_183 l K hy hQ ih hF
                  · refine v_iload (pc := 166) K dX12_isTrue_166 0 rfl ?_
                    refine v_iload (pc := 168) K dX12_isTrue_168 1 rfl ?_
                    refine v_ior (pc := 170) K dX12_isTrue_170 ?_
                    refine v_goto (pc := 171) (tgt := 183) K dX12_isTrue_171 (by decide) ?_
                    refine v_sub [4, 5, 6, 7] rfl ?_
                    exact bX12_isTrue_183 l K hy hQ ih hF
                · refine v_iload (pc := 151) K dX12_isTrue_151 0 rfl ?_
                  refine v_iload (pc := 153) K dX12_isTrue_153 1 rfl ?_
                  refine v_iand (pc := 155) K dX12_isTrue_155 ?_
                  refine v_goto (pc := 156) (tgt := 183) K dX12_isTrue_156 (by decide) ?_
                  refine v_sub [4, 5, 6, 7] rfl ?_
                  exact bX12_isTrue_183 l K hy hQ ih hF
              · refine v_iload (pc := 136) K dX12_isTrue_136 0 rfl ?_
                refine v_iload (pc := 138) K dX12_isTrue_138 1 rfl ?_
                refine v_isub (pc := 140) K dX12_isTrue_140 ?_
                refine v_goto (pc := 141) (tgt := 183) K dX12_isTrue_141 (by decide) ?_
                refine v_sub [4, 5, 6, 7] rfl ?_
                exact bX12_isTrue_183 l K hy hQ ih hF
            · refine v_iload (pc := 122) K dX12_isTrue_122 0 rfl ?_
              refine v_iload (pc := 124) K dX12_isTrue_124 1 rfl ?_
              refine v_iadd (pc := 126) K dX12_isTrue_126 ?_
              refine v_goto (pc := 127) (tgt := 183) K dX12_isTrue_127 (by decide) ?_
              refine v_sub [4, 5, 6, 7] rfl ?_
              exact bX12_isTrue_183 l K hy hQ ih hF
          · refine v_aload_n (pc := 90) K dX12_isTrue_90 2 rfl ?_
            refine v_iconst (pc := 91) (v := 1) K dX12_isTrue_91 rfl ?_
            refine v_aload_n (pc := 92) K dX12_isTrue_92 2 rfl ?_
            obtain ⟨r20, M21, hc19, hF⟩ := q_bE hF
            refine v_callV (pc := 93) (ci := 11) (As := []) (rest := [.int (1 : Int32), .ref (ly_o y 1000)]) (st' := [.int r20, .int (1 : Int32), .ref (ly_o y 1000)]) (r := some (.int r20)) (M1 := M21) K (kX12_pop l K.2.2.2.2.2.2.1 hy hc19) (jg_V jl_X12_297 jw_i_X12_pop jw_s_X12_pop jw_n_X12 jw_c_X12_pop) rfl rfl rfl jd_X12_pop ⟨Nat.le_of_ble_eq_true rfl, Nat.le_of_ble_eq_true rfl⟩ rfl rfl (Nat.le_of_ble_eq_true rfl) (by decide) (okc_1 hy) rfl dX12_isTrue_93 rfl ?_
            refine v_isub (pc := 96) K dX12_isTrue_96 ?_
            obtain ⟨M24, hc22, hF⟩ := q_bvE hF
            refine v_callV (pc := 97) (ci := 11) (As := [.int ((1 : Int32) - r20)]) (rest := []) (st' := []) (r := none) (M1 := M24) K (kX12_push l K.2.2.2.2.2.2.1 hy hc22) (jg_V jl_X12_294 jw_i_X12_push jw_s_X12_push jw_n_X12 jw_c_X12_push) rfl rfl rfl jd_X12_push ⟨Nat.le_of_ble_eq_true rfl, Nat.le_of_ble_eq_true rfl⟩ rfl rfl (Nat.le_of_ble_eq_true rfl) (by decide) (okc_1 hy) rfl dX12_isTrue_97 rfl ?_
            refine v_goto (pc := 100) (tgt := 186) K dX12_isTrue_100 (by decide) ?_
            refine v_sub [2, 3, 4, 5] rfl ?_
            exact bX12_isTrue_186 l K hy hQ ih hF
        · refine v_aload_n (pc := 69) K dX12_isTrue_69 2 rfl ?_
          refine v_aload_n (pc := 70) K dX12_isTrue_70 2 rfl ?_
          refine gX12_word (pc := 71) K hy (by decide) jn_X12 (List.mem_cons_of_mem _ jl_X12_47) dX12_isTrue_71 ?_
          refine v_iload (pc := 74) K dX12_isTrue_74 0 rfl ?_
          refine iX12_word (pc := 76) K hy (by decide) hF dX12_isTrue_76 (fun hi26 hF => ?_)
          obtain ⟨M29, hc27, hF⟩ := q_bvE hF
          refine v_callV (pc := 77) (ci := 11) (As := [.int (q_a M 1000 22 v5.toNatClampNeg)]) (rest := []) (st' := []) (r := none) (M1 := M29) K (kX12_push l K.2.2.2.2.2.2.1 hy hc27) (jg_V jl_X12_294 jw_i_X12_push jw_s_X12_push jw_n_X12 jw_c_X12_push) rfl rfl rfl jd_X12_push ⟨Nat.le_of_ble_eq_true rfl, Nat.le_of_ble_eq_true rfl⟩ rfl rfl (Nat.le_of_ble_eq_true rfl) (by decide) (okc_1 hy) rfl dX12_isTrue_77 rfl ?_
          refine v_goto (pc := 80) (tgt := 186) K dX12_isTrue_80 (by decide) ?_
          refine v_sub [2, 3, 4, 5] rfl ?_
          exact bX12_isTrue_186 l K hy hQ ih hF
      · refine v_aload_n (pc := 54) K dX12_isTrue_54 2 rfl ?_
        refine v_iload (pc := 55) K dX12_isTrue_55 0 rfl ?_
        obtain ⟨M33, hc31, hF⟩ := q_bvE hF
        refine v_callV (pc := 57) (ci := 11) (As := [.int v5]) (rest := []) (st' := []) (r := none) (M1 := M33) K (kX12_push l K.2.2.2.2.2.2.1 hy hc31) (jg_V jl_X12_294 jw_i_X12_push jw_s_X12_push jw_n_X12 jw_c_X12_push) rfl rfl rfl jd_X12_push ⟨Nat.le_of_ble_eq_true rfl, Nat.le_of_ble_eq_true rfl⟩ rfl rfl (Nat.le_of_ble_eq_true rfl) (by decide) (okc_1 hy) rfl dX12_isTrue_57 rfl ?_
        refine v_goto (pc := 60) (tgt := 186) K dX12_isTrue_60 (by decide) ?_
        refine v_sub [2, 3, 4, 5] rfl ?_
        exact bX12_isTrue_186 l K hy hQ ih hF
def fX12_isTrue (M : QM) (x1 : Int32) (x2 : Int32) (x3 : Int32) : Option (Int32 × QM) := (q_t (p_i M 1000 24 (0 : Int32)) fun M1 => (fX12_isTrue_b8 q_F M1 x1 x3 x2))
set_option maxRecDepth 100000 in
set_option maxHeartbeats 4000000 in
theorem bX12_isTrue_0 {x : Cx} {y : Ly} (l : Launch) (K : VK x l rmX12_isTrue y 9 cX12_isTrue RX12 wqX12_isTrue) (hy : y.2.2.2.2 = 1) {z : Int32 × QM} (hQ : VQ x y (some (.int z.1)) z.2 (some .boolean)) {M : QM} {x1 : Int32} {x2 : Int32} {x3 : Int32} (hF : fX12_isTrue M x1 x2 x3 = some z) : V x y 9 M 0 [(0, .ref (ly_o y 1000)), (1, .int x1), (2, .int x2), (3, .int x3)] [] := by
  unfold fX12_isTrue at hF
  refine v_aload_n (pc := 0) K dX12_isTrue_0 0 rfl ?_
  refine v_iconst (pc := 1) (v := 0) K dX12_isTrue_1 rfl ?_
  refine pX12_top (pc := 2) K hy (by decide) jn_X12 (List.mem_cons_of_mem _ jl_X12_291) dX12_isTrue_2 ?_
  refine v_nmM hF (fun M1 hF => ?_)
  refine v_iload_n (pc := 5) K dX12_isTrue_5 2 rfl ?_
  refine v_istore (pc := 6) (lv' := [(4, .int x2), (0, .ref (ly_o y 1000)), (1, .int x1), (2, .int x2), (3, .int x3)]) K 4 dX12_isTrue_6 (by decide) rfl ?_
  refine v_sub [1, 2, 4, 0] rfl ?_
  exact bX12_isTrue_8 l K hy hQ q_F hF
set_option maxRecDepth 100000 in
set_option maxHeartbeats 4000000 in
theorem kX12_isTrue (l : Launch) {y : Ly} (hJ : ly_J y) (hy : y.2.2.2.2 = 1) {M M1 : QM} {r : Int32} {x1 : Int32} {x2 : Int32} {x3 : Int32} (hF : fX12_isTrue M x1 x2 x3 = some (r, M1)) : Met l yX12_isTrue wqX12_isTrue rmX12_isTrue (q_P y [.ref (ly_o y 1000), .int x1, .int x2, .int x3] M) (q_E y (some (.int r)) M1) 0 0 (ly_A y) :=
  q_met (by decide) rfl hJ rfl rfl rfl (fun x K hQ => bX12_isTrue_0 l K hy (z := (r, M1)) hQ  hF)
-- ===== X12_words (IIIIII)V
theorem jd_X12_words : yX12_words.cls = RX12 ∧ yX12_words.cls ≠ "java/lang/invoke/MethodHandle" ∧ yX12_words.cls ≠ "java/lang/invoke/VarHandle" ∧ (parseMethodDescriptor yX12_words.desc).map (fun d => d.parameters.length) = some 6 := by decide +kernel
abbrev wqX12_words : List Cond := .code yX12_words cX12_words 7 none :: wsL_law
abbrev rmX12_words : Room := { frames := 0, cells := 0, slots := 0, locals := 0 }
def fX12_words_b93 (M : QM) (x1 : Int32) (x2 : Int32) (x3 : Int32) (x4 : Int32) (x5 : Int32) (x6 : Int32) (s0 : Int32) (s1 : Int32) : Option QM := (if q_in s1 10 then (q_t (p_a M 1000 22 s1.toNatClampNeg s0) fun M17 => (if q_in (((12 : Int32) * x1) + x2) 144 then (if q_in (5 : Int32) 10 then (q_t (p_a M17 1000 22 (5 : Int32).toNatClampNeg (q_a M17 1000 2 (((12 : Int32) * x1) + x2).toNatClampNeg)) fun M20 => (if q_in (6 : Int32) 10 then (q_t (p_a M20 1000 22 (6 : Int32).toNatClampNeg x3) fun M22 => (if q_in (7 : Int32) 10 then (q_t (p_a M22 1000 22 (7 : Int32).toNatClampNeg x4) fun M24 => (if q_in (8 : Int32) 10 then (q_t (p_a M24 1000 22 (8 : Int32).toNatClampNeg x5) fun M26 => (if q_in (9 : Int32) 10 then (q_t (p_a M26 1000 22 (9 : Int32).toNatClampNeg x6) fun M28 => some M28) else none)) else none)) else none)) else none)) else none) else none)) else none)
set_option maxRecDepth 100000 in
set_option maxHeartbeats 4000000 in
theorem bX12_words_93 {x : Cx} {y : Ly} (l : Launch) (K : VK x l rmX12_words y 7 cX12_words RX12 wqX12_words) (hy : y.2.2.2.2 = 1) {z : QM} (hQ : VQ x y none z none) {M : QM} {x1 : Int32} {x2 : Int32} {x3 : Int32} {x4 : Int32} {x5 : Int32} {x6 : Int32} {s0 : Int32} {s1 : Int32} (hF : fX12_words_b93 M x1 x2 x3 x4 x5 x6 s0 s1 = some z) : V x y 7 M 93 [(0, .ref (ly_o y 1000)), (1, .int x1), (2, .int x2), (3, .int x3), (4, .int x4), (5, .int x5), (6, .int x6)] [.int s0, .int s1, .ref (ly_a y 1000 22)] := by
  unfold fX12_words_b93 at hF
  refine uX12_word (pc := 93) K hy (by decide) hF dX12_words_93 (fun hi16 hF => ?_)
  refine v_nmM hF (fun M17 hF => ?_)
  refine v_aload_n (pc := 94) K dX12_words_94 0 rfl ?_
  refine gX12_word (pc := 95) K hy (by decide) jn_X12 (List.mem_cons_of_mem _ jl_X12_47) dX12_words_95 ?_
  refine v_iconst (pc := 98) (v := 5) K dX12_words_98 rfl ?_
  refine v_aload_n (pc := 99) K dX12_words_99 0 rfl ?_
  refine gX12_owes (pc := 100) K hy (by decide) jn_X12 (List.mem_cons_of_mem _ jl_X12_13) dX12_words_100 ?_
  refine v_bipush (pc := 103) (v := 12) K dX12_words_103 rfl ?_
  refine v_iload_n (pc := 105) K dX12_words_105 1 rfl ?_
  refine v_imul (pc := 106) K dX12_words_106 ?_
  refine v_iload_n (pc := 107) K dX12_words_107 2 rfl ?_
  refine v_iadd (pc := 108) K dX12_words_108 ?_
  refine iX12_owes (pc := 109) K hy (by decide) hF dX12_words_109 (fun hi18 hF => ?_)
  refine uX12_word (pc := 110) K hy (by decide) hF dX12_words_110 (fun hi19 hF => ?_)
  refine v_nmM hF (fun M20 hF => ?_)
  refine v_aload_n (pc := 111) K dX12_words_111 0 rfl ?_
  refine gX12_word (pc := 112) K hy (by decide) jn_X12 (List.mem_cons_of_mem _ jl_X12_47) dX12_words_112 ?_
  refine v_bipush (pc := 115) (v := 6) K dX12_words_115 rfl ?_
  refine v_iload_n (pc := 117) K dX12_words_117 3 rfl ?_
  refine uX12_word (pc := 118) K hy (by decide) hF dX12_words_118 (fun hi21 hF => ?_)
  refine v_nmM hF (fun M22 hF => ?_)
  refine v_aload_n (pc := 119) K dX12_words_119 0 rfl ?_
  refine gX12_word (pc := 120) K hy (by decide) jn_X12 (List.mem_cons_of_mem _ jl_X12_47) dX12_words_120 ?_
  refine v_bipush (pc := 123) (v := 7) K dX12_words_123 rfl ?_
  refine v_iload (pc := 125) K dX12_words_125 4 rfl ?_
  refine uX12_word (pc := 127) K hy (by decide) hF dX12_words_127 (fun hi23 hF => ?_)
  refine v_nmM hF (fun M24 hF => ?_)
  refine v_aload_n (pc := 128) K dX12_words_128 0 rfl ?_
  refine gX12_word (pc := 129) K hy (by decide) jn_X12 (List.mem_cons_of_mem _ jl_X12_47) dX12_words_129 ?_
  refine v_bipush (pc := 132) (v := 8) K dX12_words_132 rfl ?_
  refine v_iload (pc := 134) K dX12_words_134 5 rfl ?_
  refine uX12_word (pc := 136) K hy (by decide) hF dX12_words_136 (fun hi25 hF => ?_)
  refine v_nmM hF (fun M26 hF => ?_)
  refine v_aload_n (pc := 137) K dX12_words_137 0 rfl ?_
  refine gX12_word (pc := 138) K hy (by decide) jn_X12 (List.mem_cons_of_mem _ jl_X12_47) dX12_words_138 ?_
  refine v_bipush (pc := 141) (v := 9) K dX12_words_141 rfl ?_
  refine v_iload (pc := 143) K dX12_words_143 6 rfl ?_
  refine uX12_word (pc := 145) K hy (by decide) hF dX12_words_145 (fun hi27 hF => ?_)
  refine v_nmM hF (fun M28 hF => ?_)
  have hz := (Option.some.inj hF).symm
  subst hz
  exact v_vret (pc := 146) K hQ dX12_words_146
def fX12_words (M : QM) (x1 : Int32) (x2 : Int32) (x3 : Int32) (x4 : Int32) (x5 : Int32) (x6 : Int32) : Option QM := (if q_in ((4 : Int32) * x1) 48 then (if q_in (0 : Int32) 10 then (q_t (p_a M 1000 22 (0 : Int32).toNatClampNeg (q_a M 1000 1 ((4 : Int32) * x1).toNatClampNeg)) fun M3 => (if q_in (((4 : Int32) * x1) + (1 : Int32)) 48 then (if q_in (1 : Int32) 10 then (q_t (p_a M3 1000 22 (1 : Int32).toNatClampNeg (q_a M3 1000 1 (((4 : Int32) * x1) + (1 : Int32)).toNatClampNeg)) fun M6 => (if q_in ((4 : Int32) * x2) 48 then (if q_in (2 : Int32) 10 then (q_t (p_a M6 1000 22 (2 : Int32).toNatClampNeg (q_a M6 1000 1 ((4 : Int32) * x2).toNatClampNeg)) fun M9 => (if q_in (((4 : Int32) * x2) + (1 : Int32)) 48 then (if q_in (3 : Int32) 10 then (q_t (p_a M9 1000 22 (3 : Int32).toNatClampNeg (q_a M9 1000 1 (((4 : Int32) * x2) + (1 : Int32)).toNatClampNeg)) fun M12 => (if q_in (((4 : Int32) * x1) + (2 : Int32)) 48 then (if q_in (((4 : Int32) * x2) + (2 : Int32)) 48 then if (q_a M12 1000 1 (((4 : Int32) * x1) + (2 : Int32)).toNatClampNeg) ≠ (q_a M12 1000 1 (((4 : Int32) * x2) + (2 : Int32)).toNatClampNeg) then (fX12_words_b93 M12 x1 x2 x3 x4 x5 x6 (0 : Int32) (4 : Int32)) else (fX12_words_b93 M12 x1 x2 x3 x4 x5 x6 (1 : Int32) (4 : Int32)) else none) else none)) else none) else none)) else none) else none)) else none) else none)) else none) else none)
set_option maxRecDepth 100000 in
set_option maxHeartbeats 4000000 in
theorem bX12_words_0 {x : Cx} {y : Ly} (l : Launch) (K : VK x l rmX12_words y 7 cX12_words RX12 wqX12_words) (hy : y.2.2.2.2 = 1) {z : QM} (hQ : VQ x y none z none) {M : QM} {x1 : Int32} {x2 : Int32} {x3 : Int32} {x4 : Int32} {x5 : Int32} {x6 : Int32} (hF : fX12_words M x1 x2 x3 x4 x5 x6 = some z) : V x y 7 M 0 [(0, .ref (ly_o y 1000)), (1, .int x1), (2, .int x2), (3, .int x3), (4, .int x4), (5, .int x5), (6, .int x6)] [] := by
  unfold fX12_words at hF
  refine v_aload_n (pc := 0) K dX12_words_0 0 rfl ?_
  refine gX12_word (pc := 1) K hy (by decide) jn_X12 (List.mem_cons_of_mem _ jl_X12_47) dX12_words_1 ?_
  refine v_iconst (pc := 4) (v := 0) K dX12_words_4 rfl ?_
  refine v_aload_n (pc := 5) K dX12_words_5 0 rfl ?_
  refine gX12_person (pc := 6) K hy (by decide) jn_X12 (List.mem_cons_of_mem _ jl_X12_7) dX12_words_6 ?_
  refine v_iconst (pc := 9) (v := 4) K dX12_words_9 rfl ?_
  refine v_iload_n (pc := 10) K dX12_words_10 1 rfl ?_
  refine v_imul (pc := 11) K dX12_words_11 ?_
  refine iX12_person (pc := 12) K hy (by decide) hF dX12_words_12 (fun hi1 hF => ?_)
  refine uX12_word (pc := 13) K hy (by decide) hF dX12_words_13 (fun hi2 hF => ?_)
  refine v_nmM hF (fun M3 hF => ?_)
  refine v_aload_n (pc := 14) K dX12_words_14 0 rfl ?_
  refine gX12_word (pc := 15) K hy (by decide) jn_X12 (List.mem_cons_of_mem _ jl_X12_47) dX12_words_15 ?_
  refine v_iconst (pc := 18) (v := 1) K dX12_words_18 rfl ?_
  refine v_aload_n (pc := 19) K dX12_words_19 0 rfl ?_
  refine gX12_person (pc := 20) K hy (by decide) jn_X12 (List.mem_cons_of_mem _ jl_X12_7) dX12_words_20 ?_
  refine v_iconst (pc := 23) (v := 4) K dX12_words_23 rfl ?_
  refine v_iload_n (pc := 24) K dX12_words_24 1 rfl ?_
  refine v_imul (pc := 25) K dX12_words_25 ?_
  refine v_iconst (pc := 26) (v := 1) K dX12_words_26 rfl ?_
  refine v_iadd (pc := 27) K dX12_words_27 ?_
  refine iX12_person (pc := 28) K hy (by decide) hF dX12_words_28 (fun hi4 hF => ?_)
  refine uX12_word (pc := 29) K hy (by decide) hF dX12_words_29 (fun hi5 hF => ?_)
  refine v_nmM hF (fun M6 hF => ?_)
  refine v_aload_n (pc := 30) K dX12_words_30 0 rfl ?_
  refine gX12_word (pc := 31) K hy (by decide) jn_X12 (List.mem_cons_of_mem _ jl_X12_47) dX12_words_31 ?_
  refine v_iconst (pc := 34) (v := 2) K dX12_words_34 rfl ?_
  refine v_aload_n (pc := 35) K dX12_words_35 0 rfl ?_
  refine gX12_person (pc := 36) K hy (by decide) jn_X12 (List.mem_cons_of_mem _ jl_X12_7) dX12_words_36 ?_
  refine v_iconst (pc := 39) (v := 4) K dX12_words_39 rfl ?_
  refine v_iload_n (pc := 40) K dX12_words_40 2 rfl ?_
  refine v_imul (pc := 41) K dX12_words_41 ?_
  refine iX12_person (pc := 42) K hy (by decide) hF dX12_words_42 (fun hi7 hF => ?_)
  refine uX12_word (pc := 43) K hy (by decide) hF dX12_words_43 (fun hi8 hF => ?_)
  refine v_nmM hF (fun M9 hF => ?_)
  refine v_aload_n (pc := 44) K dX12_words_44 0 rfl ?_
  refine gX12_word (pc := 45) K hy (by decide) jn_X12 (List.mem_cons_of_mem _ jl_X12_47) dX12_words_45 ?_
  refine v_iconst (pc := 48) (v := 3) K dX12_words_48 rfl ?_
  refine v_aload_n (pc := 49) K dX12_words_49 0 rfl ?_
  refine gX12_person (pc := 50) K hy (by decide) jn_X12 (List.mem_cons_of_mem _ jl_X12_7) dX12_words_50 ?_
  refine v_iconst (pc := 53) (v := 4) K dX12_words_53 rfl ?_
  refine v_iload_n (pc := 54) K dX12_words_54 2 rfl ?_
  refine v_imul (pc := 55) K dX12_words_55 ?_
  refine v_iconst (pc := 56) (v := 1) K dX12_words_56 rfl ?_
  refine v_iadd (pc := 57) K dX12_words_57 ?_
  refine iX12_person (pc := 58) K hy (by decide) hF dX12_words_58 (fun hi10 hF => ?_)
  refine uX12_word (pc := 59) K hy (by decide) hF dX12_words_59 (fun hi11 hF => ?_)
  refine v_nmM hF (fun M12 hF => ?_)
  refine v_aload_n (pc := 60) K dX12_words_60 0 rfl ?_
  refine gX12_word (pc := 61) K hy (by decide) jn_X12 (List.mem_cons_of_mem _ jl_X12_47) dX12_words_61 ?_
  refine v_iconst (pc := 64) (v := 4) K dX12_words_64 rfl ?_
  refine v_aload_n (pc := 65) K dX12_words_65 0 rfl ?_
  refine gX12_person (pc := 66) K hy (by decide) jn_X12 (List.mem_cons_of_mem _ jl_X12_7) dX12_words_66 ?_
  refine v_iconst (pc := 69) (v := 4) K dX12_words_69 rfl ?_
  refine v_iload_n (pc := 70) K dX12_words_70 1 rfl ?_
  refine v_imul (pc := 71) K dX12_words_71 ?_
  refine v_iconst (pc := 72) (v := 2) K dX12_words_72 rfl ?_
  refine v_iadd (pc := 73) K dX12_words_73 ?_
  refine iX12_person (pc := 74) K hy (by decide) hF dX12_words_74 (fun hi13 hF => ?_)
  refine v_aload_n (pc := 75) K dX12_words_75 0 rfl ?_
  refine gX12_person (pc := 76) K hy (by decide) jn_X12 (List.mem_cons_of_mem _ jl_X12_7) dX12_words_76 ?_
  refine v_iconst (pc := 79) (v := 4) K dX12_words_79 rfl ?_
  refine v_iload_n (pc := 80) K dX12_words_80 2 rfl ?_
  refine v_imul (pc := 81) K dX12_words_81 ?_
  refine v_iconst (pc := 82) (v := 2) K dX12_words_82 rfl ?_
  refine v_iadd (pc := 83) K dX12_words_83 ?_
  refine iX12_person (pc := 84) K hy (by decide) hF dX12_words_84 (fun hi14 hF => ?_)
  refine v_icmp_ne (pc := 85) (tgt := 92) K dX12_words_85 (by decide) hF (fun c15 hF => ?_) (fun c15 hF => ?_)
  · refine v_iconst (pc := 92) (v := 0) K dX12_words_92 rfl ?_
    exact bX12_words_93 l K hy hQ hF
  · refine v_iconst (pc := 88) (v := 1) K dX12_words_88 rfl ?_
    refine v_goto (pc := 89) (tgt := 93) K dX12_words_89 (by decide) ?_
    exact bX12_words_93 l K hy hQ hF
set_option maxRecDepth 100000 in
set_option maxHeartbeats 4000000 in
theorem kX12_words (l : Launch) {y : Ly} (hJ : ly_J y) (hy : y.2.2.2.2 = 1) {M M1 : QM} {x1 : Int32} {x2 : Int32} {x3 : Int32} {x4 : Int32} {x5 : Int32} {x6 : Int32} (hF : fX12_words M x1 x2 x3 x4 x5 x6 = some M1) : Met l yX12_words wqX12_words rmX12_words (q_P y [.ref (ly_o y 1000), .int x1, .int x2, .int x3, .int x4, .int x5, .int x6] M) (q_E y none M1) 0 0 (ly_A y) :=
  q_met (by decide) rfl hJ rfl rfl rfl (fun x K hQ => bX12_words_0 l K hy (z := M1) hQ  hF)
-- ===== X12_weigh (III)I
theorem jd_X12_weigh : yX12_weigh.cls = RX12 ∧ yX12_weigh.cls ≠ "java/lang/invoke/MethodHandle" ∧ yX12_weigh.cls ≠ "java/lang/invoke/VarHandle" ∧ (parseMethodDescriptor yX12_weigh.desc).map (fun d => d.parameters.length) = some 3 := by decide +kernel
abbrev wqX12_weigh : List Cond := .code yX12_weigh cX12_weigh 8 (some .int) :: wsL_law
abbrev rmX12_weigh : Room := { frames := 2, cells := 0, slots := 0, locals := 51 }
def fX12_weigh_b148 (M : QM) (x6 : Int32) (x7 : Int32) : Option (Int32 × QM) := if x7 = (0 : Int32) then (if q_in (x6 + (2 : Int32)) 420 then some (q_a M 1000 8 (x6 + (2 : Int32)).toNatClampNeg, M) else none) else some ((15 : Int32), M)
set_option maxRecDepth 100000 in
set_option maxHeartbeats 4000000 in
theorem bX12_weigh_148 {x : Cx} {y : Ly} (l : Launch) (K : VK x l rmX12_weigh y 8 cX12_weigh RX12 wqX12_weigh) (hy : y.2.2.2.2 = 1) {z : Int32 × QM} (hQ : VQ x y (some (.int z.1)) z.2 (some .int)) {M : QM} {x6 : Int32} {x7 : Int32} (hF : fX12_weigh_b148 M x6 x7 = some z) : V x y 8 M 148 [(0, .ref (ly_o y 1000)), (6, .int x6), (7, .int x7)] [] := by
  unfold fX12_weigh_b148 at hF
  refine v_iload (pc := 148) K dX12_weigh_148 2 rfl ?_
  refine v_if_eq (pc := 150) (tgt := 158) K dX12_weigh_150 (by decide) hF (fun c21 hF => ?_) (fun c21 hF => ?_)
  · refine v_aload_n (pc := 158) K dX12_weigh_158 0 rfl ?_
    refine gX12_clause (pc := 159) K hy (by decide) jn_X12 (List.mem_cons_of_mem _ jl_X12_26) dX12_weigh_159 ?_
    refine v_iload (pc := 162) K dX12_weigh_162 1 rfl ?_
    refine v_iconst (pc := 164) (v := 2) K dX12_weigh_164 rfl ?_
    refine v_iadd (pc := 165) K dX12_weigh_165 ?_
    refine iX12_clause (pc := 166) K hy (by decide) hF dX12_weigh_166 (fun hi20 hF => ?_)
    have hz := (Option.some.inj hF).symm
    subst hz
    exact v_iret (pc := 167) K hQ dX12_weigh_167
  · refine v_bipush (pc := 153) (v := 15) K dX12_weigh_153 rfl ?_
    refine v_goto (pc := 155) (tgt := 167) K dX12_weigh_155 (by decide) ?_
    have hz := (Option.some.inj hF).symm
    subst hz
    exact v_iret (pc := 167) K hQ dX12_weigh_167
def fX12_weigh_b168 (k6 : QM → Int32 → Int32 → Int32 → Int32 → Int32 → Option (Int32 × QM)) (M : QM) (x1 : Int32) (x2 : Int32) (x3 : Int32) (x4 : Int32) (x5 : Int32) : Option (Int32 × QM) := (k6 M x1 x2 x3 x4 (x5 + (1 : Int32)))
set_option maxRecDepth 100000 in
set_option maxHeartbeats 4000000 in
theorem bX12_weigh_168 {x : Cx} {y : Ly} (l : Launch) (K : VK x l rmX12_weigh y 8 cX12_weigh RX12 wqX12_weigh) (hy : y.2.2.2.2 = 1) {z : Int32 × QM} (hQ : VQ x y (some (.int z.1)) z.2 (some .int)) {k6 : QM → Int32 → Int32 → Int32 → Int32 → Int32 → Option (Int32 × QM)} (hk6 : ∀ {M : QM} {x1 : Int32} {x2 : Int32} {x3 : Int32} {x4 : Int32} {x5 : Int32}, k6 M x1 x2 x3 x4 x5 = some z → V x y 8 M 6 [(0, .ref (ly_o y 1000)), (1, .int x1), (2, .int x2), (3, .int x3), (4, .int x4), (5, .int x5)] []) {M : QM} {x1 : Int32} {x2 : Int32} {x3 : Int32} {x4 : Int32} {x5 : Int32} (hF : fX12_weigh_b168 k6 M x1 x2 x3 x4 x5 = some z) : V x y 8 M 168 [(0, .ref (ly_o y 1000)), (1, .int x1), (2, .int x2), (3, .int x3), (4, .int x4), (5, .int x5)] [] := by
  unfold fX12_weigh_b168 at hF
  refine v_iinc (pc := 168) (v1 := x5 + (1 : Int32)) (lv' := [(5, .int (x5 + (1 : Int32))), (0, .ref (ly_o y 1000)), (1, .int x1), (2, .int x2), (3, .int x3), (4, .int x4)]) K dX12_weigh_168 5 rfl rfl (by decide) rfl ?_
  refine v_goto (pc := 171) (tgt := 6) K dX12_weigh_171 (by decide) ?_
  refine v_sub [1, 2, 3, 4, 5, 0] rfl ?_
  exact hk6 hF
def fX12_weigh_b77 (k6 : QM → Int32 → Int32 → Int32 → Int32 → Int32 → Option (Int32 × QM)) (M : QM) (x1 : Int32) (x2 : Int32) (x3 : Int32) (x5 : Int32) (x6 : Int32) (x7 : Int32) (s0 : Int32) (s1 : Int32) : Option (Int32 × QM) := (if q_in x6 420 then if (q_a M 1000 8 x6.toNatClampNeg) ≠ x2 then (fX12_weigh_b168 k6 M x1 x2 x3 (s1 + s0) x5) else (if q_in (x6 + (1 : Int32)) 420 then if (q_a M 1000 8 (x6 + (1 : Int32)).toNatClampNeg) = x3 then (if q_in (x6 + (3 : Int32)) 420 then if (q_a M 1000 8 (x6 + (3 : Int32)).toNatClampNeg) < (0 : Int32) then (fX12_weigh_b148 M x6 x7) else (if q_in (x6 + (3 : Int32)) 420 then (if q_in (x6 + (4 : Int32)) 420 then (q_b (fX12_isTrue M x1 (q_a M 1000 8 (x6 + (3 : Int32)).toNatClampNeg) (q_a M 1000 8 (x6 + (4 : Int32)).toNatClampNeg)) fun r14 M15 => if r14 ≠ (0 : Int32) then (fX12_weigh_b148 M15 x6 x7) else (fX12_weigh_b168 k6 M15 x1 x2 x3 (s1 + s0) x5)) else none) else none) else none) else (fX12_weigh_b168 k6 M x1 x2 x3 (s1 + s0) x5) else none) else none)
set_option maxRecDepth 100000 in
set_option maxHeartbeats 4000000 in
theorem bX12_weigh_77 {x : Cx} {y : Ly} (l : Launch) (K : VK x l rmX12_weigh y 8 cX12_weigh RX12 wqX12_weigh) (hy : y.2.2.2.2 = 1) {z : Int32 × QM} (hQ : VQ x y (some (.int z.1)) z.2 (some .int)) {k6 : QM → Int32 → Int32 → Int32 → Int32 → Int32 → Option (Int32 × QM)} (hk6 : ∀ {M : QM} {x1 : Int32} {x2 : Int32} {x3 : Int32} {x4 : Int32} {x5 : Int32}, k6 M x1 x2 x3 x4 x5 = some z → V x y 8 M 6 [(0, .ref (ly_o y 1000)), (1, .int x1), (2, .int x2), (3, .int x3), (4, .int x4), (5, .int x5)] []) {M : QM} {x1 : Int32} {x2 : Int32} {x3 : Int32} {x5 : Int32} {x6 : Int32} {x7 : Int32} {s0 : Int32} {s1 : Int32} (hF : fX12_weigh_b77 k6 M x1 x2 x3 x5 x6 x7 s0 s1 = some z) : V x y 8 M 77 [(0, .ref (ly_o y 1000)), (1, .int x1), (2, .int x2), (3, .int x3), (5, .int x5), (6, .int x6), (7, .int x7)] [.int s0, .int s1] := by
  unfold fX12_weigh_b77 at hF
  refine v_iadd (pc := 77) K dX12_weigh_77 ?_
  refine v_istore (pc := 78) (lv' := [(4, .int (s1 + s0)), (0, .ref (ly_o y 1000)), (1, .int x1), (2, .int x2), (3, .int x3), (5, .int x5), (6, .int x6), (7, .int x7)]) K 4 dX12_weigh_78 (by decide) rfl ?_
  refine v_aload_n (pc := 80) K dX12_weigh_80 1 rfl ?_
  refine gX12_clause (pc := 81) K hy (by decide) jn_X12 (List.mem_cons_of_mem _ jl_X12_26) dX12_weigh_81 ?_
  refine v_iload (pc := 84) K dX12_weigh_84 6 rfl ?_
  refine iX12_clause (pc := 86) K hy (by decide) hF dX12_weigh_86 (fun hi8 hF => ?_)
  refine v_iload_n (pc := 87) K dX12_weigh_87 3 rfl ?_
  refine v_icmp_ne (pc := 88) (tgt := 168) K dX12_weigh_88 (by decide) hF (fun c19 hF => ?_) (fun c19 hF => ?_)
  · refine v_sub [1, 2, 3, 4, 0, 5] rfl ?_
    exact bX12_weigh_168 l K hy hQ hk6 hF
  · refine v_aload_n (pc := 91) K dX12_weigh_91 1 rfl ?_
    refine gX12_clause (pc := 92) K hy (by decide) jn_X12 (List.mem_cons_of_mem _ jl_X12_26) dX12_weigh_92 ?_
    refine v_iload (pc := 95) K dX12_weigh_95 6 rfl ?_
    refine v_iconst (pc := 97) (v := 1) K dX12_weigh_97 rfl ?_
    refine v_iadd (pc := 98) K dX12_weigh_98 ?_
    refine iX12_clause (pc := 99) K hy (by decide) hF dX12_weigh_99 (fun hi9 hF => ?_)
    refine v_iload_n (pc := 100) K dX12_weigh_100 4 rfl ?_
    refine v_icmp_eq (pc := 101) (tgt := 107) K dX12_weigh_101 (by decide) hF (fun c18 hF => ?_) (fun c18 hF => ?_)
    · refine v_aload_n (pc := 107) K dX12_weigh_107 1 rfl ?_
      refine gX12_clause (pc := 108) K hy (by decide) jn_X12 (List.mem_cons_of_mem _ jl_X12_26) dX12_weigh_108 ?_
      refine v_iload (pc := 111) K dX12_weigh_111 6 rfl ?_
      refine v_iconst (pc := 113) (v := 3) K dX12_weigh_113 rfl ?_
      refine v_iadd (pc := 114) K dX12_weigh_114 ?_
      refine iX12_clause (pc := 115) K hy (by decide) hF dX12_weigh_115 (fun hi10 hF => ?_)
      refine v_if_lt (pc := 116) (tgt := 148) K dX12_weigh_116 (by decide) hF (fun c17 hF => ?_) (fun c17 hF => ?_)
      · refine v_sub [1, 6, 7] rfl ?_
        exact bX12_weigh_148 l K hy hQ hF
      · refine v_aload_n (pc := 119) K dX12_weigh_119 1 rfl ?_
        refine v_iload_n (pc := 120) K dX12_weigh_120 2 rfl ?_
        refine v_aload_n (pc := 121) K dX12_weigh_121 1 rfl ?_
        refine gX12_clause (pc := 122) K hy (by decide) jn_X12 (List.mem_cons_of_mem _ jl_X12_26) dX12_weigh_122 ?_
        refine v_iload (pc := 125) K dX12_weigh_125 6 rfl ?_
        refine v_iconst (pc := 127) (v := 3) K dX12_weigh_127 rfl ?_
        refine v_iadd (pc := 128) K dX12_weigh_128 ?_
        refine iX12_clause (pc := 129) K hy (by decide) hF dX12_weigh_129 (fun hi11 hF => ?_)
        refine v_aload_n (pc := 130) K dX12_weigh_130 1 rfl ?_
        refine gX12_clause (pc := 131) K hy (by decide) jn_X12 (List.mem_cons_of_mem _ jl_X12_26) dX12_weigh_131 ?_
        refine v_iload (pc := 134) K dX12_weigh_134 6 rfl ?_
        refine v_iconst (pc := 136) (v := 4) K dX12_weigh_136 rfl ?_
        refine v_iadd (pc := 137) K dX12_weigh_137 ?_
        refine iX12_clause (pc := 138) K hy (by decide) hF dX12_weigh_138 (fun hi12 hF => ?_)
        obtain ⟨r14, M15, hc13, hF⟩ := q_bE hF
        refine v_callV (pc := 139) (ci := 11) (As := [.int x1, .int (q_a M 1000 8 (x6 + (3 : Int32)).toNatClampNeg), .int (q_a M 1000 8 (x6 + (4 : Int32)).toNatClampNeg)]) (rest := []) (st' := [.int r14]) (r := some (.int r14)) (M1 := M15) K (kX12_isTrue l K.2.2.2.2.2.2.1 hy hc13) (jg_V jl_X12_307 jw_i_X12_isTrue jw_s_X12_isTrue jw_n_X12 jw_c_X12_isTrue) rfl rfl rfl jd_X12_isTrue ⟨Nat.le_of_ble_eq_true rfl, Nat.le_of_ble_eq_true rfl⟩ rfl rfl (Nat.le_of_ble_eq_true rfl) (by decide) (okc_1 hy) rfl dX12_weigh_139 rfl ?_
        refine v_if_ne (pc := 142) (tgt := 148) K dX12_weigh_142 (by decide) hF (fun c16 hF => ?_) (fun c16 hF => ?_)
        · refine v_sub [1, 6, 7] rfl ?_
          exact bX12_weigh_148 l K hy hQ hF
        · refine v_goto (pc := 145) (tgt := 168) K dX12_weigh_145 (by decide) ?_
          refine v_sub [1, 2, 3, 4, 0, 5] rfl ?_
          exact bX12_weigh_168 l K hy hQ hk6 hF
    · refine v_goto (pc := 104) (tgt := 168) K dX12_weigh_104 (by decide) ?_
      refine v_sub [1, 2, 3, 4, 0, 5] rfl ?_
      exact bX12_weigh_168 l K hy hQ hk6 hF
def fX12_weigh_b57 (k6 : QM → Int32 → Int32 → Int32 → Int32 → Int32 → Option (Int32 × QM)) (M : QM) (x1 : Int32) (x2 : Int32) (x3 : Int32) (x4 : Int32) (x5 : Int32) (x6 : Int32) (s0 : Int32) : Option (Int32 × QM) := (if q_in x6 420 then if (q_a M 1000 8 x6.toNatClampNeg) ≠ (1 : Int32) then (fX12_weigh_b77 k6 M x1 x2 x3 x5 x6 s0 (0 : Int32) x4) else (fX12_weigh_b77 k6 M x1 x2 x3 x5 x6 s0 (1 : Int32) x4) else none)
set_option maxRecDepth 100000 in
set_option maxHeartbeats 4000000 in
theorem bX12_weigh_57 {x : Cx} {y : Ly} (l : Launch) (K : VK x l rmX12_weigh y 8 cX12_weigh RX12 wqX12_weigh) (hy : y.2.2.2.2 = 1) {z : Int32 × QM} (hQ : VQ x y (some (.int z.1)) z.2 (some .int)) {k6 : QM → Int32 → Int32 → Int32 → Int32 → Int32 → Option (Int32 × QM)} (hk6 : ∀ {M : QM} {x1 : Int32} {x2 : Int32} {x3 : Int32} {x4 : Int32} {x5 : Int32}, k6 M x1 x2 x3 x4 x5 = some z → V x y 8 M 6 [(0, .ref (ly_o y 1000)), (1, .int x1), (2, .int x2), (3, .int x3), (4, .int x4), (5, .int x5)] []) {M : QM} {x1 : Int32} {x2 : Int32} {x3 : Int32} {x4 : Int32} {x5 : Int32} {x6 : Int32} {s0 : Int32} (hF : fX12_weigh_b57 k6 M x1 x2 x3 x4 x5 x6 s0 = some z) : V x y 8 M 57 [(0, .ref (ly_o y 1000)), (1, .int x1), (2, .int x2), (3, .int x3), (4, .int x4), (5, .int x5), (6, .int x6)] [.int s0] := by
  unfold fX12_weigh_b57 at hF
  refine v_istore (pc := 57) (lv' := [(7, .int s0), (0, .ref (ly_o y 1000)), (1, .int x1), (2, .int x2), (3, .int x3), (4, .int x4), (5, .int x5), (6, .int x6)]) K 7 dX12_weigh_57 (by decide) rfl ?_
  refine v_iload (pc := 59) K dX12_weigh_59 5 rfl ?_
  refine v_aload_n (pc := 61) K dX12_weigh_61 1 rfl ?_
  refine gX12_clause (pc := 62) K hy (by decide) jn_X12 (List.mem_cons_of_mem _ jl_X12_26) dX12_weigh_62 ?_
  refine v_iload (pc := 65) K dX12_weigh_65 7 rfl ?_
  refine iX12_clause (pc := 67) K hy (by decide) hF dX12_weigh_67 (fun hi6 hF => ?_)
  refine v_iconst (pc := 68) (v := 1) K dX12_weigh_68 rfl ?_
  refine v_icmp_ne (pc := 69) (tgt := 76) K dX12_weigh_69 (by decide) hF (fun c7 hF => ?_) (fun c7 hF => ?_)
  · refine v_iconst (pc := 76) (v := 0) K dX12_weigh_76 rfl ?_
    refine v_sub [1, 2, 3, 4, 6, 7, 0] rfl ?_
    exact bX12_weigh_77 l K hy hQ hk6 hF
  · refine v_iconst (pc := 72) (v := 1) K dX12_weigh_72 rfl ?_
    refine v_goto (pc := 73) (tgt := 77) K dX12_weigh_73 (by decide) ?_
    refine v_sub [1, 2, 3, 4, 6, 7, 0] rfl ?_
    exact bX12_weigh_77 l K hy hQ hk6 hF
def fX12_weigh_b56 (k6 : QM → Int32 → Int32 → Int32 → Int32 → Int32 → Option (Int32 × QM)) (M : QM) (x1 : Int32) (x2 : Int32) (x3 : Int32) (x4 : Int32) (x5 : Int32) (x6 : Int32) : Option (Int32 × QM) := (fX12_weigh_b57 k6 M x1 x2 x3 x4 x5 x6 (0 : Int32))
set_option maxRecDepth 100000 in
set_option maxHeartbeats 4000000 in
theorem bX12_weigh_56 {x : Cx} {y : Ly} (l : Launch) (K : VK x l rmX12_weigh y 8 cX12_weigh RX12 wqX12_weigh) (hy : y.2.2.2.2 = 1) {z : Int32 × QM} (hQ : VQ x y (some (.int z.1)) z.2 (some .int)) {k6 : QM → Int32 → Int32 → Int32 → Int32 → Int32 → Option (Int32 × QM)} (hk6 : ∀ {M : QM} {x1 : Int32} {x2 : Int32} {x3 : Int32} {x4 : Int32} {x5 : Int32}, k6 M x1 x2 x3 x4 x5 = some z → V x y 8 M 6 [(0, .ref (ly_o y 1000)), (1, .int x1), (2, .int x2), (3, .int x3), (4, .int x4), (5, .int x5)] []) {M : QM} {x1 : Int32} {x2 : Int32} {x3 : Int32} {x4 : Int32} {x5 : Int32} {x6 : Int32} (hF : fX12_weigh_b56 k6 M x1 x2 x3 x4 x5 x6 = some z) : V x y 8 M 56 [(0, .ref (ly_o y 1000)), (1, .int x1), (2, .int x2), (3, .int x3), (4, .int x4), (5, .int x5), (6, .int x6)] [] := by
  unfold fX12_weigh_b56 at hF
  refine v_iconst (pc := 56) (v := 0) K dX12_weigh_56 rfl ?_
  exact bX12_weigh_57 l K hy hQ hk6 hF
def fX12_weigh_b6 : Nat → QM → Int32 → Int32 → Int32 → Int32 → Int32 → Option (Int32 × QM)
  | 0, _, _, _, _, _, _ => none
  | q + 1, M, x1, x2, x3, x4, x5 => (if q_in x1 6 then if (q_a M 1000 9 x1.toNatClampNeg) ≤ x5 then some ((-1 : Int32), M) else (if q_in (((70 : Int32) * x1) + ((5 : Int32) * x5)) 420 then if (q_a M 1000 8 (((70 : Int32) * x1) + ((5 : Int32) * x5)).toNatClampNeg) ≠ (1 : Int32) then (fX12_weigh_b56 (fun M x1 x2 x3 x4 x5 => fX12_weigh_b6 q M x1 x2 x3 x4 x5) M x1 x2 x3 x4 x5 (((70 : Int32) * x1) + ((5 : Int32) * x5))) else if (((q_i M 1000 25) >>> (x4 &&& (31 : Int32))) &&& (1 : Int32)) ≠ (1 : Int32) then (fX12_weigh_b56 (fun M x1 x2 x3 x4 x5 => fX12_weigh_b6 q M x1 x2 x3 x4 x5) M x1 x2 x3 x4 x5 (((70 : Int32) * x1) + ((5 : Int32) * x5))) else (fX12_weigh_b57 (fun M x1 x2 x3 x4 x5 => fX12_weigh_b6 q M x1 x2 x3 x4 x5) M x1 x2 x3 x4 x5 (((70 : Int32) * x1) + ((5 : Int32) * x5)) (1 : Int32)) else none) else none)
set_option maxRecDepth 100000 in
set_option maxHeartbeats 4000000 in
theorem bX12_weigh_6 {x : Cx} {y : Ly} (l : Launch) (K : VK x l rmX12_weigh y 8 cX12_weigh RX12 wqX12_weigh) (hy : y.2.2.2.2 = 1) {z : Int32 × QM} (hQ : VQ x y (some (.int z.1)) z.2 (some .int)) : ∀ (q : Nat) {M : QM} {x1 : Int32} {x2 : Int32} {x3 : Int32} {x4 : Int32} {x5 : Int32},  fX12_weigh_b6 q M x1 x2 x3 x4 x5 = some z → V x y 8 M 6 [(0, .ref (ly_o y 1000)), (1, .int x1), (2, .int x2), (3, .int x3), (4, .int x4), (5, .int x5)] [] := by
  intro q
  induction q with
  | zero =>
    intro M x1 x2 x3 x4 x5  hF
    rw [fX12_weigh_b6] at hF
    cases hF
  | succ q ih =>
    intro M x1 x2 x3 x4 x5  hF
    rw [fX12_weigh_b6] at hF
    refine v_iload (pc := 6) K dX12_weigh_6 5 rfl ?_
    refine v_aload_n (pc := 8) K dX12_weigh_8 0 rfl ?_
    refine gX12_clauses (pc := 9) K hy (by decide) jn_X12 (List.mem_cons_of_mem _ jl_X12_29) dX12_weigh_9 ?_
    refine v_iload_n (pc := 12) K dX12_weigh_12 1 rfl ?_
    refine iX12_clauses (pc := 13) K hy (by decide) hF dX12_weigh_13 (fun hi1 hF => ?_)
    refine v_icmp_ge (pc := 14) (tgt := 174) K dX12_weigh_14 (by decide) hF (fun c5 hF => ?_) (fun c5 hF => ?_)
    · refine v_iconst (pc := 174) (v := -1) K dX12_weigh_174 rfl ?_
      have hz := (Option.some.inj hF).symm
      subst hz
      exact v_iret (pc := 175) K hQ dX12_weigh_175
    · refine v_bipush (pc := 17) (v := 70) K dX12_weigh_17 rfl ?_
      refine v_iload_n (pc := 19) K dX12_weigh_19 1 rfl ?_
      refine v_imul (pc := 20) K dX12_weigh_20 ?_
      refine v_iconst (pc := 21) (v := 5) K dX12_weigh_21 rfl ?_
      refine v_iload (pc := 22) K dX12_weigh_22 5 rfl ?_
      refine v_imul (pc := 24) K dX12_weigh_24 ?_
      refine v_iadd (pc := 25) K dX12_weigh_25 ?_
      refine v_istore (pc := 26) (lv' := [(6, .int (((70 : Int32) * x1) + ((5 : Int32) * x5))), (0, .ref (ly_o y 1000)), (1, .int x1), (2, .int x2), (3, .int x3), (4, .int x4), (5, .int x5)]) K 6 dX12_weigh_26 (by decide) rfl ?_
      refine v_aload_n (pc := 28) K dX12_weigh_28 1 rfl ?_
      refine gX12_clause (pc := 29) K hy (by decide) jn_X12 (List.mem_cons_of_mem _ jl_X12_26) dX12_weigh_29 ?_
      refine v_iload (pc := 32) K dX12_weigh_32 0 rfl ?_
      refine iX12_clause (pc := 34) K hy (by decide) hF dX12_weigh_34 (fun hi2 hF => ?_)
      refine v_iconst (pc := 35) (v := 1) K dX12_weigh_35 rfl ?_
      refine v_icmp_ne (pc := 36) (tgt := 56) K dX12_weigh_36 (by decide) hF (fun c4 hF => ?_) (fun c4 hF => ?_)
      · refine v_sub [1, 2, 3, 4, 5, 6, 0] rfl ?_
        exact bX12_weigh_56 l K hy hQ ih hF
      · refine v_aload_n (pc := 39) K dX12_weigh_39 1 rfl ?_
        refine gX12_mended (pc := 40) K hy (by decide) jn_X12 (List.mem_cons_of_mem _ jl_X12_304) dX12_weigh_40 ?_
        refine v_iload (pc := 43) K dX12_weigh_43 5 rfl ?_
        refine v_ishr (pc := 45) K dX12_weigh_45 ?_
        refine v_iconst (pc := 46) (v := 1) K dX12_weigh_46 rfl ?_
        refine v_iand (pc := 47) K dX12_weigh_47 ?_
        refine v_iconst (pc := 48) (v := 1) K dX12_weigh_48 rfl ?_
        refine v_icmp_ne (pc := 49) (tgt := 56) K dX12_weigh_49 (by decide) hF (fun c3 hF => ?_) (fun c3 hF => ?_)
        · refine v_sub [1, 2, 3, 4, 5, 6, 0] rfl ?_
          exact bX12_weigh_56 l K hy hQ ih hF
        · refine v_iconst (pc := 52) (v := 1) K dX12_weigh_52 rfl ?_
          refine v_goto (pc := 53) (tgt := 57) K dX12_weigh_53 (by decide) ?_
          refine v_sub [1, 2, 3, 4, 5, 6, 0] rfl ?_
          exact bX12_weigh_57 l K hy hQ ih hF
def fX12_weigh (M : QM) (x1 : Int32) (x2 : Int32) (x3 : Int32) : Option (Int32 × QM) := (fX12_weigh_b6 q_F M x1 x2 x3 (0 : Int32) (0 : Int32))
set_option maxRecDepth 100000 in
set_option maxHeartbeats 4000000 in
theorem bX12_weigh_0 {x : Cx} {y : Ly} (l : Launch) (K : VK x l rmX12_weigh y 8 cX12_weigh RX12 wqX12_weigh) (hy : y.2.2.2.2 = 1) {z : Int32 × QM} (hQ : VQ x y (some (.int z.1)) z.2 (some .int)) {M : QM} {x1 : Int32} {x2 : Int32} {x3 : Int32} (hF : fX12_weigh M x1 x2 x3 = some z) : V x y 8 M 0 [(0, .ref (ly_o y 1000)), (1, .int x1), (2, .int x2), (3, .int x3)] [] := by
  unfold fX12_weigh at hF
  refine v_iconst (pc := 0) (v := 0) K dX12_weigh_0 rfl ?_
  refine v_istore (pc := 1) (lv' := [(4, .int (0 : Int32)), (0, .ref (ly_o y 1000)), (1, .int x1), (2, .int x2), (3, .int x3)]) K 4 dX12_weigh_1 (by decide) rfl ?_
  refine v_iconst (pc := 3) (v := 0) K dX12_weigh_3 rfl ?_
  refine v_istore (pc := 4) (lv' := [(5, .int (0 : Int32)), (4, .int (0 : Int32)), (0, .ref (ly_o y 1000)), (1, .int x1), (2, .int x2), (3, .int x3)]) K 5 dX12_weigh_4 (by decide) rfl ?_
  refine v_sub [2, 3, 4, 5, 1, 0] rfl ?_
  exact bX12_weigh_6 l K hy hQ q_F hF
set_option maxRecDepth 100000 in
set_option maxHeartbeats 4000000 in
theorem kX12_weigh (l : Launch) {y : Ly} (hJ : ly_J y) (hy : y.2.2.2.2 = 1) {M M1 : QM} {r : Int32} {x1 : Int32} {x2 : Int32} {x3 : Int32} (hF : fX12_weigh M x1 x2 x3 = some (r, M1)) : Met l yX12_weigh wqX12_weigh rmX12_weigh (q_P y [.ref (ly_o y 1000), .int x1, .int x2, .int x3] M) (q_E y (some (.int r)) M1) 0 0 (ly_A y) :=
  q_met (by decide) rfl hJ rfl rfl rfl (fun x K hQ => bX12_weigh_0 l K hy (z := (r, M1)) hQ  hF)
-- ===== X12_degree (II)I
theorem jd_X12_degree : yX12_degree.cls = RX12 ∧ yX12_degree.cls ≠ "java/lang/invoke/MethodHandle" ∧ yX12_degree.cls ≠ "java/lang/invoke/VarHandle" ∧ (parseMethodDescriptor yX12_degree.desc).map (fun d => d.parameters.length) = some 2 := by decide +kernel
abbrev wqX12_degree : List Cond := .code yX12_degree cX12_degree 4 (some .int) :: wsL_law
abbrev rmX12_degree : Room := { frames := 3, cells := 0, slots := 0, locals := 78 }
def fX12_degree (M : QM) (x1 : Int32) (x2 : Int32) : Option (Int32 × QM) := (q_b (fX12_weigh M x1 (0 : Int32) x2) fun r2 M3 => if (0 : Int32) ≤ r2 then some (r2, M3) else some ((0 : Int32), M3))
set_option maxRecDepth 100000 in
set_option maxHeartbeats 4000000 in
theorem bX12_degree_0 {x : Cx} {y : Ly} (l : Launch) (K : VK x l rmX12_degree y 4 cX12_degree RX12 wqX12_degree) (hy : y.2.2.2.2 = 1) {z : Int32 × QM} (hQ : VQ x y (some (.int z.1)) z.2 (some .int)) {M : QM} {x1 : Int32} {x2 : Int32} (hF : fX12_degree M x1 x2 = some z) : V x y 4 M 0 [(0, .ref (ly_o y 1000)), (1, .int x1), (2, .int x2)] [] := by
  unfold fX12_degree at hF
  refine v_aload_n (pc := 0) K dX12_degree_0 0 rfl ?_
  refine v_iload_n (pc := 1) K dX12_degree_1 1 rfl ?_
  refine v_iconst (pc := 2) (v := 0) K dX12_degree_2 rfl ?_
  refine v_iload_n (pc := 3) K dX12_degree_3 2 rfl ?_
  obtain ⟨r2, M3, hc1, hF⟩ := q_bE hF
  refine v_callV (pc := 4) (ci := 11) (As := [.int x1, .int (0 : Int32), .int x2]) (rest := []) (st' := [.int r2]) (r := some (.int r2)) (M1 := M3) K (kX12_weigh l K.2.2.2.2.2.2.1 hy hc1) (jg_V jl_X12_311 jw_i_X12_weigh jw_s_X12_weigh jw_n_X12 jw_c_X12_weigh) rfl rfl rfl jd_X12_weigh ⟨Nat.le_of_ble_eq_true rfl, Nat.le_of_ble_eq_true rfl⟩ rfl rfl (Nat.le_of_ble_eq_true rfl) (by decide) (okc_1 hy) rfl dX12_degree_4 rfl ?_
  refine v_istore_n (pc := 7) (lv' := [(3, .int r2), (0, .ref (ly_o y 1000)), (1, .int x1), (2, .int x2)]) K dX12_degree_7 3 rfl (by decide) rfl ?_
  refine v_iload_n (pc := 8) K dX12_degree_8 0 rfl ?_
  refine v_if_ge (pc := 9) (tgt := 16) K dX12_degree_9 (by decide) hF (fun c4 hF => ?_) (fun c4 hF => ?_)
  · refine v_iload_n (pc := 16) K dX12_degree_16 0 rfl ?_
    have hz := (Option.some.inj hF).symm
    subst hz
    exact v_iret (pc := 17) K hQ dX12_degree_17
  · refine v_iconst (pc := 12) (v := 0) K dX12_degree_12 rfl ?_
    refine v_goto (pc := 13) (tgt := 17) K dX12_degree_13 (by decide) ?_
    have hz := (Option.some.inj hF).symm
    subst hz
    exact v_iret (pc := 17) K hQ dX12_degree_17
set_option maxRecDepth 100000 in
set_option maxHeartbeats 4000000 in
theorem kX12_degree (l : Launch) {y : Ly} (hJ : ly_J y) (hy : y.2.2.2.2 = 1) {M M1 : QM} {r : Int32} {x1 : Int32} {x2 : Int32} (hF : fX12_degree M x1 x2 = some (r, M1)) : Met l yX12_degree wqX12_degree rmX12_degree (q_P y [.ref (ly_o y 1000), .int x1, .int x2] M) (q_E y (some (.int r)) M1) 0 0 (ly_A y) :=
  q_met (by decide) rfl hJ rfl rfl rfl (fun x K hQ => bX12_degree_0 l K hy (z := (r, M1)) hQ  hF)
-- ===== X12_takes (II)I
theorem jd_X12_takes : yX12_takes.cls = RX12 ∧ yX12_takes.cls ≠ "java/lang/invoke/MethodHandle" ∧ yX12_takes.cls ≠ "java/lang/invoke/VarHandle" ∧ (parseMethodDescriptor yX12_takes.desc).map (fun d => d.parameters.length) = some 2 := by decide +kernel
abbrev wqX12_takes : List Cond := .code yX12_takes cX12_takes 4 (some .int) :: wsL_law
abbrev rmX12_takes : Room := { frames := 3, cells := 0, slots := 0, locals := 78 }
def fX12_takes (M : QM) (x1 : Int32) (x2 : Int32) : Option (Int32 × QM) := (q_b (fX12_weigh M x1 (1 : Int32) x2) fun r2 M3 => if (0 : Int32) ≤ r2 then some (r2, M3) else some ((0 : Int32), M3))
set_option maxRecDepth 100000 in
set_option maxHeartbeats 4000000 in
theorem bX12_takes_0 {x : Cx} {y : Ly} (l : Launch) (K : VK x l rmX12_takes y 4 cX12_takes RX12 wqX12_takes) (hy : y.2.2.2.2 = 1) {z : Int32 × QM} (hQ : VQ x y (some (.int z.1)) z.2 (some .int)) {M : QM} {x1 : Int32} {x2 : Int32} (hF : fX12_takes M x1 x2 = some z) : V x y 4 M 0 [(0, .ref (ly_o y 1000)), (1, .int x1), (2, .int x2)] [] := by
  unfold fX12_takes at hF
  refine v_aload_n (pc := 0) K dX12_takes_0 0 rfl ?_
  refine v_iload_n (pc := 1) K dX12_takes_1 1 rfl ?_
  refine v_iconst (pc := 2) (v := 1) K dX12_takes_2 rfl ?_
  refine v_iload_n (pc := 3) K dX12_takes_3 2 rfl ?_
  obtain ⟨r2, M3, hc1, hF⟩ := q_bE hF
  refine v_callV (pc := 4) (ci := 11) (As := [.int x1, .int (1 : Int32), .int x2]) (rest := []) (st' := [.int r2]) (r := some (.int r2)) (M1 := M3) K (kX12_weigh l K.2.2.2.2.2.2.1 hy hc1) (jg_V jl_X12_311 jw_i_X12_weigh jw_s_X12_weigh jw_n_X12 jw_c_X12_weigh) rfl rfl rfl jd_X12_weigh ⟨Nat.le_of_ble_eq_true rfl, Nat.le_of_ble_eq_true rfl⟩ rfl rfl (Nat.le_of_ble_eq_true rfl) (by decide) (okc_1 hy) rfl dX12_takes_4 rfl ?_
  refine v_istore_n (pc := 7) (lv' := [(3, .int r2), (0, .ref (ly_o y 1000)), (1, .int x1), (2, .int x2)]) K dX12_takes_7 3 rfl (by decide) rfl ?_
  refine v_iload_n (pc := 8) K dX12_takes_8 0 rfl ?_
  refine v_if_ge (pc := 9) (tgt := 16) K dX12_takes_9 (by decide) hF (fun c4 hF => ?_) (fun c4 hF => ?_)
  · refine v_iload_n (pc := 16) K dX12_takes_16 0 rfl ?_
    have hz := (Option.some.inj hF).symm
    subst hz
    exact v_iret (pc := 17) K hQ dX12_takes_17
  · refine v_iconst (pc := 12) (v := 0) K dX12_takes_12 rfl ?_
    refine v_goto (pc := 13) (tgt := 17) K dX12_takes_13 (by decide) ?_
    have hz := (Option.some.inj hF).symm
    subst hz
    exact v_iret (pc := 17) K hQ dX12_takes_17
set_option maxRecDepth 100000 in
set_option maxHeartbeats 4000000 in
theorem kX12_takes (l : Launch) {y : Ly} (hJ : ly_J y) (hy : y.2.2.2.2 = 1) {M M1 : QM} {r : Int32} {x1 : Int32} {x2 : Int32} (hF : fX12_takes M x1 x2 = some (r, M1)) : Met l yX12_takes wqX12_takes rmX12_takes (q_P y [.ref (ly_o y 1000), .int x1, .int x2] M) (q_E y (some (.int r)) M1) 0 0 (ly_A y) :=
  q_met (by decide) rfl hJ rfl rfl rfl (fun x K hQ => bX12_takes_0 l K hy (z := (r, M1)) hQ  hF)
-- ===== X12_mayRefuse (I)Z
theorem jd_X12_mayRefuse : yX12_mayRefuse.cls = RX12 ∧ yX12_mayRefuse.cls ≠ "java/lang/invoke/MethodHandle" ∧ yX12_mayRefuse.cls ≠ "java/lang/invoke/VarHandle" ∧ (parseMethodDescriptor yX12_mayRefuse.desc).map (fun d => d.parameters.length) = some 1 := by decide +kernel
abbrev wqX12_mayRefuse : List Cond := .code yX12_mayRefuse cX12_mayRefuse 2 (some .boolean) :: wsL_law
abbrev rmX12_mayRefuse : Room := { frames := 3, cells := 0, slots := 0, locals := 78 }
def fX12_mayRefuse (M : QM) (x1 : Int32) : Option (Int32 × QM) := (q_b (fX12_weigh M x1 (2 : Int32) (0 : Int32)) fun r2 M3 => if r2 < (0 : Int32) then some ((0 : Int32), M3) else some ((1 : Int32), M3))
set_option maxRecDepth 100000 in
set_option maxHeartbeats 4000000 in
theorem bX12_mayRefuse_0 {x : Cx} {y : Ly} (l : Launch) (K : VK x l rmX12_mayRefuse y 2 cX12_mayRefuse RX12 wqX12_mayRefuse) (hy : y.2.2.2.2 = 1) {z : Int32 × QM} (hQ : VQ x y (some (.int z.1)) z.2 (some .boolean)) {M : QM} {x1 : Int32} (hF : fX12_mayRefuse M x1 = some z) : V x y 2 M 0 [(0, .ref (ly_o y 1000)), (1, .int x1)] [] := by
  unfold fX12_mayRefuse at hF
  refine v_aload_n (pc := 0) K dX12_mayRefuse_0 0 rfl ?_
  refine v_iload_n (pc := 1) K dX12_mayRefuse_1 1 rfl ?_
  refine v_iconst (pc := 2) (v := 2) K dX12_mayRefuse_2 rfl ?_
  refine v_iconst (pc := 3) (v := 0) K dX12_mayRefuse_3 rfl ?_
  obtain ⟨r2, M3, hc1, hF⟩ := q_bE hF
  refine v_callV (pc := 4) (ci := 11) (As := [.int x1, .int (2 : Int32), .int (0 : Int32)]) (rest := []) (st' := [.int r2]) (r := some (.int r2)) (M1 := M3) K (kX12_weigh l K.2.2.2.2.2.2.1 hy hc1) (jg_V jl_X12_311 jw_i_X12_weigh jw_s_X12_weigh jw_n_X12 jw_c_X12_weigh) rfl rfl rfl jd_X12_weigh ⟨Nat.le_of_ble_eq_true rfl, Nat.le_of_ble_eq_true rfl⟩ rfl rfl (Nat.le_of_ble_eq_true rfl) (by decide) (okc_1 hy) rfl dX12_mayRefuse_4 rfl ?_
  refine v_if_lt (pc := 7) (tgt := 14) K dX12_mayRefuse_7 (by decide) hF (fun c4 hF => ?_) (fun c4 hF => ?_)
  · refine v_iconst (pc := 14) (v := 0) K dX12_mayRefuse_14 rfl ?_
    have hz := (Option.some.inj hF).symm
    subst hz
    exact v_zret (pc := 15) K hQ rfl dX12_mayRefuse_15
  · refine v_iconst (pc := 10) (v := 1) K dX12_mayRefuse_10 rfl ?_
    refine v_goto (pc := 11) (tgt := 15) K dX12_mayRefuse_11 (by decide) ?_
    have hz := (Option.some.inj hF).symm
    subst hz
    exact v_zret (pc := 15) K hQ rfl dX12_mayRefuse_15
set_option maxRecDepth 100000 in
set_option maxHeartbeats 4000000 in
theorem kX12_mayRefuse (l : Launch) {y : Ly} (hJ : ly_J y) (hy : y.2.2.2.2 = 1) {M M1 : QM} {r : Int32} {x1 : Int32} (hF : fX12_mayRefuse M x1 = some (r, M1)) : Met l yX12_mayRefuse wqX12_mayRefuse rmX12_mayRefuse (q_P y [.ref (ly_o y 1000), .int x1] M) (q_E y (some (.int r)) M1) 0 0 (ly_A y) :=
  q_met (by decide) rfl hJ rfl rfl rfl (fun x K hQ => bX12_mayRefuse_0 l K hy (z := (r, M1)) hQ  hF)
-- ===== X12_weighs (IIIIIIII)I
theorem jd_X12_weighs : yX12_weighs.cls = RX12 ∧ yX12_weighs.cls ≠ "java/lang/invoke/MethodHandle" ∧ yX12_weighs.cls ≠ "java/lang/invoke/VarHandle" ∧ (parseMethodDescriptor yX12_weighs.desc).map (fun d => d.parameters.length) = some 8 := by decide +kernel
abbrev wqX12_weighs : List Cond := .code yX12_weighs cX12_weighs 9 (some .int) :: wsL_law
abbrev rmX12_weighs : Room := { frames := 4, cells := 0, slots := 0, locals := 101 }
def fX12_weighs (M : QM) (x1 : Int32) (x2 : Int32) (x3 : Int32) (x4 : Int32) (x5 : Int32) (x6 : Int32) (x7 : Int32) (x8 : Int32) : Option (Int32 × QM) := (q_b (fX12_isCode M x1) fun r2 M3 => if r2 = (0 : Int32) then some ((-1 : Int32), M3) else (q_b (fX12_areTwo M3 x2 x3) fun r5 M6 => if r5 = (0 : Int32) then some ((-1 : Int32), M6) else (q_b (fX12_in M6 (Int32.toInt64 x4) (0 : Int64) (9 : Int64)) fun r8 M9 => if r8 = (0 : Int32) then some ((-1 : Int32), M9) else (q_b (fX12_in M9 (Int32.toInt64 x5) (0 : Int64) (15 : Int64)) fun r11 M12 => if r11 = (0 : Int32) then some ((-1 : Int32), M12) else (q_b (fX12_in M12 (Int32.toInt64 x6) (0 : Int64) (15 : Int64)) fun r14 M15 => if r14 = (0 : Int32) then some ((-1 : Int32), M15) else (q_b (fX12_in M15 (Int32.toInt64 x7) (0 : Int64) (8 : Int64)) fun r17 M18 => if r17 = (0 : Int32) then some ((-1 : Int32), M18) else (q_b (fX12_in M18 (Int32.toInt64 x8) (0 : Int64) (8 : Int64)) fun r20 M21 => if r20 ≠ (0 : Int32) then (q_bv (fX12_words M21 x2 x3 x4 x5 x6 x7) fun M24 => if (4 : Int32) ≤ x8 then if (8 : Int32) ≤ x8 then (q_b (fX12_mayRefuse M24 x1) fun r26 M27 => if r26 = (0 : Int32) then some ((0 : Int32), M27) else some ((1 : Int32), M27)) else (q_b (fX12_takes M24 x1 (x8 - (4 : Int32))) fun r30 M31 => some (r30, M31)) else (q_b (fX12_degree M24 x1 x8) fun r34 M35 => some (r34, M35))) else some ((-1 : Int32), M21))))))))
set_option maxRecDepth 100000 in
set_option maxHeartbeats 4000000 in
theorem bX12_weighs_0 {x : Cx} {y : Ly} (l : Launch) (K : VK x l rmX12_weighs y 9 cX12_weighs RX12 wqX12_weighs) (hy : y.2.2.2.2 = 1) {z : Int32 × QM} (hQ : VQ x y (some (.int z.1)) z.2 (some .int)) {M : QM} {x1 : Int32} {x2 : Int32} {x3 : Int32} {x4 : Int32} {x5 : Int32} {x6 : Int32} {x7 : Int32} {x8 : Int32} (hF : fX12_weighs M x1 x2 x3 x4 x5 x6 x7 x8 = some z) : V x y 9 M 0 [(0, .ref (ly_o y 1000)), (1, .int x1), (2, .int x2), (3, .int x3), (4, .int x4), (5, .int x5), (6, .int x6), (7, .int x7), (8, .int x8)] [] := by
  unfold fX12_weighs at hF
  refine v_aload_n (pc := 0) K dX12_weighs_0 0 rfl ?_
  refine v_iload_n (pc := 1) K dX12_weighs_1 1 rfl ?_
  obtain ⟨r2, M3, hc1, hF⟩ := q_bE hF
  refine v_callV (pc := 2) (ci := 11) (As := [.int x1]) (rest := []) (st' := [.int r2]) (r := some (.int r2)) (M1 := M3) K (kX12_isCode l K.2.2.2.2.2.2.1 hy hc1) (jg_V jl_X12_286 jw_i_X12_isCode jw_s_X12_isCode jw_n_X12 jw_c_X12_isCode) rfl rfl rfl jd_X12_isCode ⟨Nat.le_of_ble_eq_true rfl, Nat.le_of_ble_eq_true rfl⟩ rfl rfl (Nat.le_of_ble_eq_true rfl) (by decide) (okc_1 hy) rfl dX12_weighs_2 rfl ?_
  refine v_if_eq (pc := 5) (tgt := 82) K dX12_weighs_5 (by decide) hF (fun c43 hF => ?_) (fun c43 hF => ?_)
  · refine v_iconst (pc := 82) (v := -1) K dX12_weighs_82 rfl ?_
    have hz := (Option.some.inj hF).symm
    subst hz
    exact v_iret (pc := 83) K hQ dX12_weighs_83
  · refine v_aload_n (pc := 8) K dX12_weighs_8 0 rfl ?_
    refine v_iload_n (pc := 9) K dX12_weighs_9 2 rfl ?_
    refine v_iload_n (pc := 10) K dX12_weighs_10 3 rfl ?_
    obtain ⟨r5, M6, hc4, hF⟩ := q_bE hF
    refine v_callV (pc := 11) (ci := 11) (As := [.int x2, .int x3]) (rest := []) (st' := [.int r5]) (r := some (.int r5)) (M1 := M6) K (kX12_areTwo l K.2.2.2.2.2.2.1 hy hc4) (jg_V jl_X12_107 jw_i_X12_areTwo jw_s_X12_areTwo jw_n_X12 jw_c_X12_areTwo) rfl rfl rfl jd_X12_areTwo ⟨Nat.le_of_ble_eq_true rfl, Nat.le_of_ble_eq_true rfl⟩ rfl rfl (Nat.le_of_ble_eq_true rfl) (by decide) (okc_1 hy) rfl dX12_weighs_11 rfl ?_
    refine v_if_eq (pc := 14) (tgt := 82) K dX12_weighs_14 (by decide) hF (fun c42 hF => ?_) (fun c42 hF => ?_)
    · refine v_iconst (pc := 82) (v := -1) K dX12_weighs_82 rfl ?_
      have hz := (Option.some.inj hF).symm
      subst hz
      exact v_iret (pc := 83) K hQ dX12_weighs_83
    · refine v_iload (pc := 17) K dX12_weighs_17 4 rfl ?_
      refine v_i2l (pc := 19) K dX12_weighs_19 ?_
      refine v_lconst (pc := 20) (v := 0) K dX12_weighs_20 rfl ?_
      refine v_ldc2 (pc := 21) (v := 9) K dX12_weighs_21 (List.mem_cons_of_mem _ jl_X12_101) ?_
      obtain ⟨r8, M9, hc7, hF⟩ := q_bE hF
      refine v_callS (pc := 24) (As := [.long (Int32.toInt64 x4), .long (0 : Int64), .long (9 : Int64)]) (rest := []) (st' := [.int r8]) (r := some (.int r8)) (M1 := M9) K (kX12_in l K.2.2.2.2.2.2.1 hy hc7) (jg_S jl_X12_97 jw_t_X12_in jw_n_X12 jw_c_X12_in) rfl rfl rfl jd_X12_in ⟨Nat.le_of_ble_eq_true rfl, Nat.le_of_ble_eq_true rfl⟩ rfl rfl (Nat.le_of_ble_eq_true rfl) dX12_weighs_24 rfl ?_
      refine v_if_eq (pc := 27) (tgt := 82) K dX12_weighs_27 (by decide) hF (fun c41 hF => ?_) (fun c41 hF => ?_)
      · refine v_iconst (pc := 82) (v := -1) K dX12_weighs_82 rfl ?_
        have hz := (Option.some.inj hF).symm
        subst hz
        exact v_iret (pc := 83) K hQ dX12_weighs_83
      · refine v_iload (pc := 30) K dX12_weighs_30 5 rfl ?_
        refine v_i2l (pc := 32) K dX12_weighs_32 ?_
        refine v_lconst (pc := 33) (v := 0) K dX12_weighs_33 rfl ?_
        refine v_ldc2 (pc := 34) (v := 15) K dX12_weighs_34 (List.mem_cons_of_mem _ jl_X12_314) ?_
        obtain ⟨r11, M12, hc10, hF⟩ := q_bE hF
        refine v_callS (pc := 37) (As := [.long (Int32.toInt64 x5), .long (0 : Int64), .long (15 : Int64)]) (rest := []) (st' := [.int r11]) (r := some (.int r11)) (M1 := M12) K (kX12_in l K.2.2.2.2.2.2.1 hy hc10) (jg_S jl_X12_97 jw_t_X12_in jw_n_X12 jw_c_X12_in) rfl rfl rfl jd_X12_in ⟨Nat.le_of_ble_eq_true rfl, Nat.le_of_ble_eq_true rfl⟩ rfl rfl (Nat.le_of_ble_eq_true rfl) dX12_weighs_37 rfl ?_
        refine v_if_eq (pc := 40) (tgt := 82) K dX12_weighs_40 (by decide) hF (fun c40 hF => ?_) (fun c40 hF => ?_)
        · refine v_iconst (pc := 82) (v := -1) K dX12_weighs_82 rfl ?_
          have hz := (Option.some.inj hF).symm
          subst hz
          exact v_iret (pc := 83) K hQ dX12_weighs_83
        · refine v_iload (pc := 43) K dX12_weighs_43 6 rfl ?_
          refine v_i2l (pc := 45) K dX12_weighs_45 ?_
          refine v_lconst (pc := 46) (v := 0) K dX12_weighs_46 rfl ?_
          refine v_ldc2 (pc := 47) (v := 15) K dX12_weighs_47 (List.mem_cons_of_mem _ jl_X12_314) ?_
          obtain ⟨r14, M15, hc13, hF⟩ := q_bE hF
          refine v_callS (pc := 50) (As := [.long (Int32.toInt64 x6), .long (0 : Int64), .long (15 : Int64)]) (rest := []) (st' := [.int r14]) (r := some (.int r14)) (M1 := M15) K (kX12_in l K.2.2.2.2.2.2.1 hy hc13) (jg_S jl_X12_97 jw_t_X12_in jw_n_X12 jw_c_X12_in) rfl rfl rfl jd_X12_in ⟨Nat.le_of_ble_eq_true rfl, Nat.le_of_ble_eq_true rfl⟩ rfl rfl (Nat.le_of_ble_eq_true rfl) dX12_weighs_50 rfl ?_
          refine v_if_eq (pc := 53) (tgt := 82) K dX12_weighs_53 (by decide) hF (fun c39 hF => ?_) (fun c39 hF => ?_)
          · refine v_iconst (pc := 82) (v := -1) K dX12_weighs_82 rfl ?_
            have hz := (Option.some.inj hF).symm
            subst hz
            exact v_iret (pc := 83) K hQ dX12_weighs_83
          · refine v_iload (pc := 56) K dX12_weighs_56 7 rfl ?_
            refine v_i2l (pc := 58) K dX12_weighs_58 ?_
            refine v_lconst (pc := 59) (v := 0) K dX12_weighs_59 rfl ?_
            refine v_ldc2 (pc := 60) (v := 8) K dX12_weighs_60 (List.mem_cons_of_mem _ jl_X12_316) ?_
            obtain ⟨r17, M18, hc16, hF⟩ := q_bE hF
            refine v_callS (pc := 63) (As := [.long (Int32.toInt64 x7), .long (0 : Int64), .long (8 : Int64)]) (rest := []) (st' := [.int r17]) (r := some (.int r17)) (M1 := M18) K (kX12_in l K.2.2.2.2.2.2.1 hy hc16) (jg_S jl_X12_97 jw_t_X12_in jw_n_X12 jw_c_X12_in) rfl rfl rfl jd_X12_in ⟨Nat.le_of_ble_eq_true rfl, Nat.le_of_ble_eq_true rfl⟩ rfl rfl (Nat.le_of_ble_eq_true rfl) dX12_weighs_63 rfl ?_
            refine v_if_eq (pc := 66) (tgt := 82) K dX12_weighs_66 (by decide) hF (fun c38 hF => ?_) (fun c38 hF => ?_)
            · refine v_iconst (pc := 82) (v := -1) K dX12_weighs_82 rfl ?_
              have hz := (Option.some.inj hF).symm
              subst hz
              exact v_iret (pc := 83) K hQ dX12_weighs_83
            · refine v_iload (pc := 69) K dX12_weighs_69 8 rfl ?_
              refine v_i2l (pc := 71) K dX12_weighs_71 ?_
              refine v_lconst (pc := 72) (v := 0) K dX12_weighs_72 rfl ?_
              refine v_ldc2 (pc := 73) (v := 8) K dX12_weighs_73 (List.mem_cons_of_mem _ jl_X12_316) ?_
              obtain ⟨r20, M21, hc19, hF⟩ := q_bE hF
              refine v_callS (pc := 76) (As := [.long (Int32.toInt64 x8), .long (0 : Int64), .long (8 : Int64)]) (rest := []) (st' := [.int r20]) (r := some (.int r20)) (M1 := M21) K (kX12_in l K.2.2.2.2.2.2.1 hy hc19) (jg_S jl_X12_97 jw_t_X12_in jw_n_X12 jw_c_X12_in) rfl rfl rfl jd_X12_in ⟨Nat.le_of_ble_eq_true rfl, Nat.le_of_ble_eq_true rfl⟩ rfl rfl (Nat.le_of_ble_eq_true rfl) dX12_weighs_76 rfl ?_
              refine v_if_ne (pc := 79) (tgt := 84) K dX12_weighs_79 (by decide) hF (fun c37 hF => ?_) (fun c37 hF => ?_)
              · refine v_aload_n (pc := 84) K dX12_weighs_84 0 rfl ?_
                refine v_iload_n (pc := 85) K dX12_weighs_85 2 rfl ?_
                refine v_iload_n (pc := 86) K dX12_weighs_86 3 rfl ?_
                refine v_iload (pc := 87) K dX12_weighs_87 4 rfl ?_
                refine v_iload (pc := 89) K dX12_weighs_89 5 rfl ?_
                refine v_iload (pc := 91) K dX12_weighs_91 6 rfl ?_
                refine v_iload (pc := 93) K dX12_weighs_93 7 rfl ?_
                obtain ⟨M24, hc22, hF⟩ := q_bvE hF
                refine v_callV (pc := 95) (ci := 11) (As := [.int x2, .int x3, .int x4, .int x5, .int x6, .int x7]) (rest := []) (st' := []) (r := none) (M1 := M24) K (kX12_words l K.2.2.2.2.2.2.1 hy hc22) (jg_V jl_X12_318 jw_i_X12_words jw_s_X12_words jw_n_X12 jw_c_X12_words) rfl rfl rfl jd_X12_words ⟨Nat.le_of_ble_eq_true rfl, Nat.le_of_ble_eq_true rfl⟩ rfl rfl (Nat.le_of_ble_eq_true rfl) (by decide) (okc_1 hy) rfl dX12_weighs_95 rfl ?_
                refine v_iload (pc := 98) K dX12_weighs_98 8 rfl ?_
                refine v_iconst (pc := 100) (v := 4) K dX12_weighs_100 rfl ?_
                refine v_icmp_ge (pc := 101) (tgt := 114) K dX12_weighs_101 (by decide) hF (fun c36 hF => ?_) (fun c36 hF => ?_)
                · refine v_iload (pc := 114) K dX12_weighs_114 8 rfl ?_
                  refine v_bipush (pc := 116) (v := 8) K dX12_weighs_116 rfl ?_
                  refine v_icmp_ge (pc := 118) (tgt := 133) K dX12_weighs_118 (by decide) hF (fun c32 hF => ?_) (fun c32 hF => ?_)
                  · refine v_aload_n (pc := 133) K dX12_weighs_133 0 rfl ?_
                    refine v_iload_n (pc := 134) K dX12_weighs_134 1 rfl ?_
                    obtain ⟨r26, M27, hc25, hF⟩ := q_bE hF
                    refine v_callV (pc := 135) (ci := 11) (As := [.int x1]) (rest := []) (st' := [.int r26]) (r := some (.int r26)) (M1 := M27) K (kX12_mayRefuse l K.2.2.2.2.2.2.1 hy hc25) (jg_V jl_X12_329 jw_i_X12_mayRefuse jw_s_X12_mayRefuse jw_n_X12 jw_c_X12_mayRefuse) rfl rfl rfl jd_X12_mayRefuse ⟨Nat.le_of_ble_eq_true rfl, Nat.le_of_ble_eq_true rfl⟩ rfl rfl (Nat.le_of_ble_eq_true rfl) (by decide) (okc_1 hy) rfl dX12_weighs_135 rfl ?_
                    refine v_if_eq (pc := 138) (tgt := 145) K dX12_weighs_138 (by decide) hF (fun c28 hF => ?_) (fun c28 hF => ?_)
                    · refine v_iconst (pc := 145) (v := 0) K dX12_weighs_145 rfl ?_
                      have hz := (Option.some.inj hF).symm
                      subst hz
                      exact v_iret (pc := 146) K hQ dX12_weighs_146
                    · refine v_iconst (pc := 141) (v := 1) K dX12_weighs_141 rfl ?_
                      refine v_goto (pc := 142) (tgt := 146) K dX12_weighs_142 (by decide) ?_
                      have hz := (Option.some.inj hF).symm
                      subst hz
                      exact v_iret (pc := 146) K hQ dX12_weighs_146
                  · refine v_aload_n (pc := 121) K dX12_weighs_121 0 rfl ?_
                    refine v_iload_n (pc := 122) K dX12_weighs_122 1 rfl ?_
                    refine v_iload (pc := 123) K dX12_weighs_123 8 rfl ?_
                    refine v_iconst (pc := 125) (v := 4) K dX12_weighs_125 rfl ?_
                    refine v_isub (pc := 126) K dX12_weighs_126 ?_
                    obtain ⟨r30, M31, hc29, hF⟩ := q_bE hF
                    refine v_callV (pc := 127) (ci := 11) (As := [.int x1, .int (x8 - (4 : Int32))]) (rest := []) (st' := [.int r30]) (r := some (.int r30)) (M1 := M31) K (kX12_takes l K.2.2.2.2.2.2.1 hy hc29) (jg_V jl_X12_326 jw_i_X12_takes jw_s_X12_takes jw_n_X12 jw_c_X12_takes) rfl rfl rfl jd_X12_takes ⟨Nat.le_of_ble_eq_true rfl, Nat.le_of_ble_eq_true rfl⟩ rfl rfl (Nat.le_of_ble_eq_true rfl) (by decide) (okc_1 hy) rfl dX12_weighs_127 rfl ?_
                    refine v_goto (pc := 130) (tgt := 146) K dX12_weighs_130 (by decide) ?_
                    have hz := (Option.some.inj hF).symm
                    subst hz
                    exact v_iret (pc := 146) K hQ dX12_weighs_146
                · refine v_aload_n (pc := 104) K dX12_weighs_104 0 rfl ?_
                  refine v_iload_n (pc := 105) K dX12_weighs_105 1 rfl ?_
                  refine v_iload (pc := 106) K dX12_weighs_106 8 rfl ?_
                  obtain ⟨r34, M35, hc33, hF⟩ := q_bE hF
                  refine v_callV (pc := 108) (ci := 11) (As := [.int x1, .int x8]) (rest := []) (st' := [.int r34]) (r := some (.int r34)) (M1 := M35) K (kX12_degree l K.2.2.2.2.2.2.1 hy hc33) (jg_V jl_X12_322 jw_i_X12_degree jw_s_X12_degree jw_n_X12 jw_c_X12_degree) rfl rfl rfl jd_X12_degree ⟨Nat.le_of_ble_eq_true rfl, Nat.le_of_ble_eq_true rfl⟩ rfl rfl (Nat.le_of_ble_eq_true rfl) (by decide) (okc_1 hy) rfl dX12_weighs_108 rfl ?_
                  refine v_goto (pc := 111) (tgt := 146) K dX12_weighs_111 (by decide) ?_
                  have hz := (Option.some.inj hF).symm
                  subst hz
                  exact v_iret (pc := 146) K hQ dX12_weighs_146
              · refine v_iconst (pc := 82) (v := -1) K dX12_weighs_82 rfl ?_
                have hz := (Option.some.inj hF).symm
                subst hz
                exact v_iret (pc := 83) K hQ dX12_weighs_83
set_option maxRecDepth 100000 in
set_option maxHeartbeats 4000000 in
theorem kX12_weighs (l : Launch) {y : Ly} (hJ : ly_J y) (hy : y.2.2.2.2 = 1) {M M1 : QM} {r : Int32} {x1 : Int32} {x2 : Int32} {x3 : Int32} {x4 : Int32} {x5 : Int32} {x6 : Int32} {x7 : Int32} {x8 : Int32} (hF : fX12_weighs M x1 x2 x3 x4 x5 x6 x7 x8 = some (r, M1)) : Met l yX12_weighs wqX12_weighs rmX12_weighs (q_P y [.ref (ly_o y 1000), .int x1, .int x2, .int x3, .int x4, .int x5, .int x6, .int x7, .int x8] M) (q_E y (some (.int r)) M1) 0 0 (ly_A y) :=
  q_met (by decide) rfl hJ rfl rfl rfl (fun x K hQ => bX12_weighs_0 l K hy (z := (r, M1)) hQ  hF)
-- ===== X12_meets (IIIII)V
theorem jd_X12_meets : yX12_meets.cls = RX12 ∧ yX12_meets.cls ≠ "java/lang/invoke/MethodHandle" ∧ yX12_meets.cls ≠ "java/lang/invoke/VarHandle" ∧ (parseMethodDescriptor yX12_meets.desc).map (fun d => d.parameters.length) = some 5 := by decide +kernel
abbrev wqX12_meets : List Cond := .code yX12_meets cX12_meets 6 none :: wsL_law
abbrev rmX12_meets : Room := { frames := 0, cells := 0, slots := 0, locals := 0 }
def fX12_meets_b70 (M : QM) (s0 : Int32) : Option QM := (q_t (p_i M 1000 29 s0) fun M15 => some M15)
set_option maxRecDepth 100000 in
set_option maxHeartbeats 4000000 in
theorem bX12_meets_70 {x : Cx} {y : Ly} (l : Launch) (K : VK x l rmX12_meets y 6 cX12_meets RX12 wqX12_meets) (hy : y.2.2.2.2 = 1) {z : QM} (hQ : VQ x y none z none) {M : QM} {s0 : Int32} (hF : fX12_meets_b70 M s0 = some z) : V x y 6 M 70 [] [.int s0, .ref (ly_o y 1000)] := by
  unfold fX12_meets_b70 at hF
  refine pX12_hoursFirst (pc := 70) K hy (by decide) jn_X12 (List.mem_cons_of_mem _ jl_X12_335) dX12_meets_70 ?_
  refine v_nmM hF (fun M15 hF => ?_)
  have hz := (Option.some.inj hF).symm
  subst hz
  exact v_vret (pc := 73) K hQ dX12_meets_73
def fX12_meets (M : QM) (x1 : Int32) (x2 : Int32) (x3 : Int32) (x4 : Int32) (x5 : Int32) : Option QM := (if q_in (0 : Int32) 2 then (q_t (p_a M 1000 26 (0 : Int32).toNatClampNeg x1) fun M2 => (if q_in (1 : Int32) 2 then (q_t (p_a M2 1000 26 (1 : Int32).toNatClampNeg x2) fun M4 => (if q_in (0 : Int32) 2 then (q_t (p_a M4 1000 27 (0 : Int32).toNatClampNeg x4) fun M6 => (if q_in (1 : Int32) 2 then (q_t (p_a M6 1000 27 (1 : Int32).toNatClampNeg x5) fun M8 => (q_t (p_i M8 1000 28 x3) fun M9 => (if q_in x4 6 then (if q_in x5 6 then if (q_a M9 1000 12 x5.toNatClampNeg) ≤ (q_a M9 1000 12 x4.toNatClampNeg) then (if q_in x5 6 then (fX12_meets_b70 M9 (q_a M9 1000 12 x5.toNatClampNeg)) else none) else (if q_in x4 6 then (fX12_meets_b70 M9 (q_a M9 1000 12 x4.toNatClampNeg)) else none) else none) else none))) else none)) else none)) else none)) else none)
set_option maxRecDepth 100000 in
set_option maxHeartbeats 4000000 in
theorem bX12_meets_0 {x : Cx} {y : Ly} (l : Launch) (K : VK x l rmX12_meets y 6 cX12_meets RX12 wqX12_meets) (hy : y.2.2.2.2 = 1) {z : QM} (hQ : VQ x y none z none) {M : QM} {x1 : Int32} {x2 : Int32} {x3 : Int32} {x4 : Int32} {x5 : Int32} (hF : fX12_meets M x1 x2 x3 x4 x5 = some z) : V x y 6 M 0 [(0, .ref (ly_o y 1000)), (1, .int x1), (2, .int x2), (3, .int x3), (4, .int x4), (5, .int x5)] [] := by
  unfold fX12_meets at hF
  refine v_aload_n (pc := 0) K dX12_meets_0 0 rfl ?_
  refine gX12_who (pc := 1) K hy (by decide) jn_X12 (List.mem_cons_of_mem _ jl_X12_53) dX12_meets_1 ?_
  refine v_iconst (pc := 4) (v := 0) K dX12_meets_4 rfl ?_
  refine v_iload_n (pc := 5) K dX12_meets_5 1 rfl ?_
  refine uX12_who (pc := 6) K hy (by decide) hF dX12_meets_6 (fun hi1 hF => ?_)
  refine v_nmM hF (fun M2 hF => ?_)
  refine v_aload_n (pc := 7) K dX12_meets_7 0 rfl ?_
  refine gX12_who (pc := 8) K hy (by decide) jn_X12 (List.mem_cons_of_mem _ jl_X12_53) dX12_meets_8 ?_
  refine v_iconst (pc := 11) (v := 1) K dX12_meets_11 rfl ?_
  refine v_iload_n (pc := 12) K dX12_meets_12 2 rfl ?_
  refine uX12_who (pc := 13) K hy (by decide) hF dX12_meets_13 (fun hi3 hF => ?_)
  refine v_nmM hF (fun M4 hF => ?_)
  refine v_aload_n (pc := 14) K dX12_meets_14 0 rfl ?_
  refine gX12_keep (pc := 15) K hy (by decide) jn_X12 (List.mem_cons_of_mem _ jl_X12_56) dX12_meets_15 ?_
  refine v_iconst (pc := 18) (v := 0) K dX12_meets_18 rfl ?_
  refine v_iload (pc := 19) K dX12_meets_19 4 rfl ?_
  refine uX12_keep (pc := 21) K hy (by decide) hF dX12_meets_21 (fun hi5 hF => ?_)
  refine v_nmM hF (fun M6 hF => ?_)
  refine v_aload_n (pc := 22) K dX12_meets_22 0 rfl ?_
  refine gX12_keep (pc := 23) K hy (by decide) jn_X12 (List.mem_cons_of_mem _ jl_X12_56) dX12_meets_23 ?_
  refine v_iconst (pc := 26) (v := 1) K dX12_meets_26 rfl ?_
  refine v_iload (pc := 27) K dX12_meets_27 5 rfl ?_
  refine uX12_keep (pc := 29) K hy (by decide) hF dX12_meets_29 (fun hi7 hF => ?_)
  refine v_nmM hF (fun M8 hF => ?_)
  refine v_aload_n (pc := 30) K dX12_meets_30 0 rfl ?_
  refine v_iload_n (pc := 31) K dX12_meets_31 3 rfl ?_
  refine pX12_ladiesNow (pc := 32) K hy (by decide) jn_X12 (List.mem_cons_of_mem _ jl_X12_332) dX12_meets_32 ?_
  refine v_nmM hF (fun M9 hF => ?_)
  refine v_aload_n (pc := 35) K dX12_meets_35 0 rfl ?_
  refine v_aload_n (pc := 36) K dX12_meets_36 0 rfl ?_
  refine gX12_hours (pc := 37) K hy (by decide) jn_X12 (List.mem_cons_of_mem _ jl_X12_38) dX12_meets_37 ?_
  refine v_iload (pc := 40) K dX12_meets_40 4 rfl ?_
  refine iX12_hours (pc := 42) K hy (by decide) hF dX12_meets_42 (fun hi10 hF => ?_)
  refine v_aload_n (pc := 43) K dX12_meets_43 0 rfl ?_
  refine gX12_hours (pc := 44) K hy (by decide) jn_X12 (List.mem_cons_of_mem _ jl_X12_38) dX12_meets_44 ?_
  refine v_iload (pc := 47) K dX12_meets_47 5 rfl ?_
  refine iX12_hours (pc := 49) K hy (by decide) hF dX12_meets_49 (fun hi11 hF => ?_)
  refine v_icmp_ge (pc := 50) (tgt := 63) K dX12_meets_50 (by decide) hF (fun c14 hF => ?_) (fun c14 hF => ?_)
  · refine v_aload_n (pc := 63) K dX12_meets_63 0 rfl ?_
    refine gX12_hours (pc := 64) K hy (by decide) jn_X12 (List.mem_cons_of_mem _ jl_X12_38) dX12_meets_64 ?_
    refine v_iload (pc := 67) K dX12_meets_67 5 rfl ?_
    refine iX12_hours (pc := 69) K hy (by decide) hF dX12_meets_69 (fun hi12 hF => ?_)
    refine v_sub [] rfl ?_
    exact bX12_meets_70 l K hy hQ hF
  · refine v_aload_n (pc := 53) K dX12_meets_53 0 rfl ?_
    refine gX12_hours (pc := 54) K hy (by decide) jn_X12 (List.mem_cons_of_mem _ jl_X12_38) dX12_meets_54 ?_
    refine v_iload (pc := 57) K dX12_meets_57 4 rfl ?_
    refine iX12_hours (pc := 59) K hy (by decide) hF dX12_meets_59 (fun hi13 hF => ?_)
    refine v_goto (pc := 60) (tgt := 70) K dX12_meets_60 (by decide) ?_
    refine v_sub [] rfl ?_
    exact bX12_meets_70 l K hy hQ hF
set_option maxRecDepth 100000 in
set_option maxHeartbeats 4000000 in
theorem kX12_meets (l : Launch) {y : Ly} (hJ : ly_J y) (hy : y.2.2.2.2 = 1) {M M1 : QM} {x1 : Int32} {x2 : Int32} {x3 : Int32} {x4 : Int32} {x5 : Int32} (hF : fX12_meets M x1 x2 x3 x4 x5 = some M1) : Met l yX12_meets wqX12_meets rmX12_meets (q_P y [.ref (ly_o y 1000), .int x1, .int x2, .int x3, .int x4, .int x5] M) (q_E y none M1) 0 0 (ly_A y) :=
  q_met (by decide) rfl hJ rfl rfl rfl (fun x K hQ => bX12_meets_0 l K hy (z := M1) hQ  hF)
-- ===== X12_spoken ()V
theorem jd_X12_spoken : yX12_spoken.cls = RX12 ∧ yX12_spoken.cls ≠ "java/lang/invoke/MethodHandle" ∧ yX12_spoken.cls ≠ "java/lang/invoke/VarHandle" ∧ (parseMethodDescriptor yX12_spoken.desc).map (fun d => d.parameters.length) = some 0 := by decide +kernel
abbrev wqX12_spoken : List Cond := .code yX12_spoken cX12_spoken 2 none :: wsL_law
abbrev rmX12_spoken : Room := { frames := 1, cells := 0, slots := 0, locals := 26 }
def fX12_spoken (M : QM) : Option QM := (if q_in (q_i M 1000 31) 2 then (if q_in ((1 : Int32) - (q_i M 1000 31)) 2 then (if q_in ((1 : Int32) - (q_i M 1000 31)) 2 then (if q_in (q_i M 1000 31) 2 then (q_bv (fX12_words M (q_a M 1000 26 (q_i M 1000 31).toNatClampNeg) (q_a M 1000 26 ((1 : Int32) - (q_i M 1000 31)).toNatClampNeg) (q_i M 1000 28) (q_a M 1000 30 ((1 : Int32) - (q_i M 1000 31)).toNatClampNeg) (q_a M 1000 30 (q_i M 1000 31).toNatClampNeg) ((q_i M 1000 29) - (q_i M 1000 33))) fun M7 => some M7) else none) else none) else none) else none)
set_option maxRecDepth 100000 in
set_option maxHeartbeats 4000000 in
theorem bX12_spoken_0 {x : Cx} {y : Ly} (l : Launch) (K : VK x l rmX12_spoken y 2 cX12_spoken RX12 wqX12_spoken) (hy : y.2.2.2.2 = 1) {z : QM} (hQ : VQ x y none z none) {M : QM} (hF : fX12_spoken M  = some z) : V x y 2 M 0 [(0, .ref (ly_o y 1000))] [] := by
  unfold fX12_spoken at hF
  refine v_iconst (pc := 0) (v := 1) K dX12_spoken_0 rfl ?_
  refine v_aload_n (pc := 1) K dX12_spoken_1 0 rfl ?_
  refine gX12_turn (pc := 2) K hy (by decide) jn_X12 (List.mem_cons_of_mem _ jl_X12_338) dX12_spoken_2 ?_
  refine v_isub (pc := 5) K dX12_spoken_5 ?_
  refine v_istore_n (pc := 6) (lv' := [(1, .int ((1 : Int32) - (q_i M 1000 31))), (0, .ref (ly_o y 1000))]) K dX12_spoken_6 1 rfl (by decide) rfl ?_
  refine v_aload_n (pc := 7) K dX12_spoken_7 1 rfl ?_
  refine v_aload_n (pc := 8) K dX12_spoken_8 1 rfl ?_
  refine gX12_who (pc := 9) K hy (by decide) jn_X12 (List.mem_cons_of_mem _ jl_X12_53) dX12_spoken_9 ?_
  refine v_aload_n (pc := 12) K dX12_spoken_12 1 rfl ?_
  refine gX12_turn (pc := 13) K hy (by decide) jn_X12 (List.mem_cons_of_mem _ jl_X12_338) dX12_spoken_13 ?_
  refine iX12_who (pc := 16) K hy (by decide) hF dX12_spoken_16 (fun hi1 hF => ?_)
  refine v_aload_n (pc := 17) K dX12_spoken_17 1 rfl ?_
  refine gX12_who (pc := 18) K hy (by decide) jn_X12 (List.mem_cons_of_mem _ jl_X12_53) dX12_spoken_18 ?_
  refine v_iload_n (pc := 21) K dX12_spoken_21 0 rfl ?_
  refine iX12_who (pc := 22) K hy (by decide) hF dX12_spoken_22 (fun hi2 hF => ?_)
  refine v_aload_n (pc := 23) K dX12_spoken_23 1 rfl ?_
  refine gX12_ladiesNow (pc := 24) K hy (by decide) jn_X12 (List.mem_cons_of_mem _ jl_X12_332) dX12_spoken_24 ?_
  refine v_aload_n (pc := 27) K dX12_spoken_27 1 rfl ?_
  refine gX12_owed (pc := 28) K hy (by decide) jn_X12 (List.mem_cons_of_mem _ jl_X12_59) dX12_spoken_28 ?_
  refine v_iload_n (pc := 31) K dX12_spoken_31 0 rfl ?_
  refine iX12_owed (pc := 32) K hy (by decide) hF dX12_spoken_32 (fun hi3 hF => ?_)
  refine v_aload_n (pc := 33) K dX12_spoken_33 1 rfl ?_
  refine gX12_owed (pc := 34) K hy (by decide) jn_X12 (List.mem_cons_of_mem _ jl_X12_59) dX12_spoken_34 ?_
  refine v_aload_n (pc := 37) K dX12_spoken_37 1 rfl ?_
  refine gX12_turn (pc := 38) K hy (by decide) jn_X12 (List.mem_cons_of_mem _ jl_X12_338) dX12_spoken_38 ?_
  refine iX12_owed (pc := 41) K hy (by decide) hF dX12_spoken_41 (fun hi4 hF => ?_)
  refine v_aload_n (pc := 42) K dX12_spoken_42 1 rfl ?_
  refine gX12_hoursFirst (pc := 43) K hy (by decide) jn_X12 (List.mem_cons_of_mem _ jl_X12_335) dX12_spoken_43 ?_
  refine v_aload_n (pc := 46) K dX12_spoken_46 1 rfl ?_
  refine gX12_left (pc := 47) K hy (by decide) jn_X12 (List.mem_cons_of_mem _ jl_X12_341) dX12_spoken_47 ?_
  refine v_isub (pc := 50) K dX12_spoken_50 ?_
  obtain ⟨M7, hc5, hF⟩ := q_bvE hF
  refine v_callV (pc := 51) (ci := 11) (As := [.int (q_a M 1000 26 (q_i M 1000 31).toNatClampNeg), .int (q_a M 1000 26 ((1 : Int32) - (q_i M 1000 31)).toNatClampNeg), .int (q_i M 1000 28), .int (q_a M 1000 30 ((1 : Int32) - (q_i M 1000 31)).toNatClampNeg), .int (q_a M 1000 30 (q_i M 1000 31).toNatClampNeg), .int ((q_i M 1000 29) - (q_i M 1000 33))]) (rest := []) (st' := []) (r := none) (M1 := M7) K (kX12_words l K.2.2.2.2.2.2.1 hy hc5) (jg_V jl_X12_318 jw_i_X12_words jw_s_X12_words jw_n_X12 jw_c_X12_words) rfl rfl rfl jd_X12_words ⟨Nat.le_of_ble_eq_true rfl, Nat.le_of_ble_eq_true rfl⟩ rfl rfl (Nat.le_of_ble_eq_true rfl) (by decide) (okc_1 hy) rfl dX12_spoken_51 rfl ?_
  have hz := (Option.some.inj hF).symm
  subst hz
  exact v_vret (pc := 54) K hQ dX12_spoken_54
set_option maxRecDepth 100000 in
set_option maxHeartbeats 4000000 in
theorem kX12_spoken (l : Launch) {y : Ly} (hJ : ly_J y) (hy : y.2.2.2.2 = 1) {M M1 : QM} (hF : fX12_spoken M  = some M1) : Met l yX12_spoken wqX12_spoken rmX12_spoken (q_P y [.ref (ly_o y 1000)] M) (q_E y none M1) 0 0 (ly_A y) :=
  q_met (by decide) rfl hJ rfl rfl rfl (fun x K hQ => bX12_spoken_0 l K hy (z := M1) hQ  hF)
-- ===== X12_isPeace ()Z
theorem jd_X12_isPeace : yX12_isPeace.cls = RX12 ∧ yX12_isPeace.cls ≠ "java/lang/invoke/MethodHandle" ∧ yX12_isPeace.cls ≠ "java/lang/invoke/VarHandle" ∧ (parseMethodDescriptor yX12_isPeace.desc).map (fun d => d.parameters.length) = some 0 := by decide +kernel
abbrev wqX12_isPeace : List Cond := .code yX12_isPeace cX12_isPeace 1 (some .boolean) :: wsL_law
abbrev rmX12_isPeace : Room := { frames := 0, cells := 0, slots := 0, locals := 0 }
def fX12_isPeace (M : QM) : Option (Int32 × QM) := (if q_in (0 : Int32) 2 then if (q_a M 1000 30 (0 : Int32).toNatClampNeg) ≠ (0 : Int32) then some ((0 : Int32), M) else (if q_in (1 : Int32) 2 then if (q_a M 1000 30 (1 : Int32).toNatClampNeg) ≠ (0 : Int32) then some ((0 : Int32), M) else if (0 : Int32) ≤ (q_i M 1000 32) then some ((0 : Int32), M) else some ((1 : Int32), M) else none) else none)
set_option maxRecDepth 100000 in
set_option maxHeartbeats 4000000 in
theorem bX12_isPeace_0 {x : Cx} {y : Ly} (l : Launch) (K : VK x l rmX12_isPeace y 1 cX12_isPeace RX12 wqX12_isPeace) (hy : y.2.2.2.2 = 1) {z : Int32 × QM} (hQ : VQ x y (some (.int z.1)) z.2 (some .boolean)) {M : QM} (hF : fX12_isPeace M  = some z) : V x y 1 M 0 [(0, .ref (ly_o y 1000))] [] := by
  unfold fX12_isPeace at hF
  refine v_aload_n (pc := 0) K dX12_isPeace_0 0 rfl ?_
  refine gX12_owed (pc := 1) K hy (by decide) jn_X12 (List.mem_cons_of_mem _ jl_X12_59) dX12_isPeace_1 ?_
  refine v_iconst (pc := 4) (v := 0) K dX12_isPeace_4 rfl ?_
  refine iX12_owed (pc := 5) K hy (by decide) hF dX12_isPeace_5 (fun hi1 hF => ?_)
  refine v_if_ne (pc := 6) (tgt := 29) K dX12_isPeace_6 (by decide) hF (fun c5 hF => ?_) (fun c5 hF => ?_)
  · refine v_iconst (pc := 29) (v := 0) K dX12_isPeace_29 rfl ?_
    have hz := (Option.some.inj hF).symm
    subst hz
    exact v_zret (pc := 30) K hQ rfl dX12_isPeace_30
  · refine v_aload_n (pc := 9) K dX12_isPeace_9 0 rfl ?_
    refine gX12_owed (pc := 10) K hy (by decide) jn_X12 (List.mem_cons_of_mem _ jl_X12_59) dX12_isPeace_10 ?_
    refine v_iconst (pc := 13) (v := 1) K dX12_isPeace_13 rfl ?_
    refine iX12_owed (pc := 14) K hy (by decide) hF dX12_isPeace_14 (fun hi2 hF => ?_)
    refine v_if_ne (pc := 15) (tgt := 29) K dX12_isPeace_15 (by decide) hF (fun c4 hF => ?_) (fun c4 hF => ?_)
    · refine v_iconst (pc := 29) (v := 0) K dX12_isPeace_29 rfl ?_
      have hz := (Option.some.inj hF).symm
      subst hz
      exact v_zret (pc := 30) K hQ rfl dX12_isPeace_30
    · refine v_aload_n (pc := 18) K dX12_isPeace_18 0 rfl ?_
      refine gX12_asked (pc := 19) K hy (by decide) jn_X12 (List.mem_cons_of_mem _ jl_X12_344) dX12_isPeace_19 ?_
      refine v_if_ge (pc := 22) (tgt := 29) K dX12_isPeace_22 (by decide) hF (fun c3 hF => ?_) (fun c3 hF => ?_)
      · refine v_iconst (pc := 29) (v := 0) K dX12_isPeace_29 rfl ?_
        have hz := (Option.some.inj hF).symm
        subst hz
        exact v_zret (pc := 30) K hQ rfl dX12_isPeace_30
      · refine v_iconst (pc := 25) (v := 1) K dX12_isPeace_25 rfl ?_
        refine v_goto (pc := 26) (tgt := 30) K dX12_isPeace_26 (by decide) ?_
        have hz := (Option.some.inj hF).symm
        subst hz
        exact v_zret (pc := 30) K hQ rfl dX12_isPeace_30
set_option maxRecDepth 100000 in
set_option maxHeartbeats 4000000 in
theorem kX12_isPeace (l : Launch) {y : Ly} (hJ : ly_J y) (hy : y.2.2.2.2 = 1) {M M1 : QM} {r : Int32} (hF : fX12_isPeace M  = some (r, M1)) : Met l yX12_isPeace wqX12_isPeace rmX12_isPeace (q_P y [.ref (ly_o y 1000)] M) (q_E y (some (.int r)) M1) 0 0 (ly_A y) :=
  q_met (by decide) rfl hJ rfl rfl rfl (fun x K hQ => bX12_isPeace_0 l K hy (z := (r, M1)) hQ  hF)
-- ===== X12_slightsFirst (IZ)V
theorem jd_X12_slightsFirst : yX12_slightsFirst.cls = RX12 ∧ yX12_slightsFirst.cls ≠ "java/lang/invoke/MethodHandle" ∧ yX12_slightsFirst.cls ≠ "java/lang/invoke/VarHandle" ∧ (parseMethodDescriptor yX12_slightsFirst.desc).map (fun d => d.parameters.length) = some 2 := by decide +kernel
abbrev wqX12_slightsFirst : List Cond := .code yX12_slightsFirst cX12_slightsFirst 3 none :: wsL_law
abbrev rmX12_slightsFirst : Room := { frames := 4, cells := 0, slots := 0, locals := 101 }
def fX12_slightsFirst_b89 (M : QM) (s0 : Int32) : Option QM := (q_t (p_i M 1000 34 s0) fun M25 => some M25)
set_option maxRecDepth 100000 in
set_option maxHeartbeats 4000000 in
theorem bX12_slightsFirst_89 {x : Cx} {y : Ly} (l : Launch) (K : VK x l rmX12_slightsFirst y 3 cX12_slightsFirst RX12 wqX12_slightsFirst) (hy : y.2.2.2.2 = 1) {z : QM} (hQ : VQ x y none z none) {M : QM} {s0 : Int32} (hF : fX12_slightsFirst_b89 M s0 = some z) : V x y 3 M 89 [] [.int s0, .ref (ly_o y 1000)] := by
  unfold fX12_slightsFirst_b89 at hF
  refine pX12_ended (pc := 89) K hy (by decide) jn_X12 (List.mem_cons_of_mem _ jl_X12_347) dX12_slightsFirst_89 ?_
  refine v_nmM hF (fun M25 hF => ?_)
  have hz := (Option.some.inj hF).symm
  subst hz
  exact v_vret (pc := 92) K hQ dX12_slightsFirst_92
def fX12_slightsFirst_b70 (M : QM) (s0 : Int32) (s1 : Int32) : Option QM := (if q_in s1 2 then (q_t (p_a M 1000 30 s1.toNatClampNeg s0) fun M19 => (q_t (p_i M19 1000 31 (1 : Int32)) fun M20 => (q_b (fX12_isPeace M20) fun r22 M23 => if r22 = (0 : Int32) then (fX12_slightsFirst_b89 M23 (0 : Int32)) else (fX12_slightsFirst_b89 M23 (1 : Int32))))) else none)
set_option maxRecDepth 100000 in
set_option maxHeartbeats 4000000 in
theorem bX12_slightsFirst_70 {x : Cx} {y : Ly} (l : Launch) (K : VK x l rmX12_slightsFirst y 3 cX12_slightsFirst RX12 wqX12_slightsFirst) (hy : y.2.2.2.2 = 1) {z : QM} (hQ : VQ x y none z none) {M : QM} {s0 : Int32} {s1 : Int32} (hF : fX12_slightsFirst_b70 M s0 s1 = some z) : V x y 3 M 70 [(0, .ref (ly_o y 1000))] [.int s0, .int s1, .ref (ly_a y 1000 30)] := by
  unfold fX12_slightsFirst_b70 at hF
  refine uX12_owed (pc := 70) K hy (by decide) hF dX12_slightsFirst_70 (fun hi18 hF => ?_)
  refine v_nmM hF (fun M19 hF => ?_)
  refine v_aload_n (pc := 71) K dX12_slightsFirst_71 0 rfl ?_
  refine v_iconst (pc := 72) (v := 1) K dX12_slightsFirst_72 rfl ?_
  refine pX12_turn (pc := 73) K hy (by decide) jn_X12 (List.mem_cons_of_mem _ jl_X12_338) dX12_slightsFirst_73 ?_
  refine v_nmM hF (fun M20 hF => ?_)
  refine v_aload_n (pc := 76) K dX12_slightsFirst_76 0 rfl ?_
  refine v_aload_n (pc := 77) K dX12_slightsFirst_77 0 rfl ?_
  obtain ⟨r22, M23, hc21, hF⟩ := q_bE hF
  refine v_callV (pc := 78) (ci := 11) (As := []) (rest := [.ref (ly_o y 1000)]) (st' := [.int r22, .ref (ly_o y 1000)]) (r := some (.int r22)) (M1 := M23) K (kX12_isPeace l K.2.2.2.2.2.2.1 hy hc21) (jg_V jl_X12_356 jw_i_X12_isPeace jw_s_X12_isPeace jw_n_X12 jw_c_X12_isPeace) rfl rfl rfl jd_X12_isPeace ⟨Nat.le_of_ble_eq_true rfl, Nat.le_of_ble_eq_true rfl⟩ rfl rfl (Nat.le_of_ble_eq_true rfl) (by decide) (okc_1 hy) rfl dX12_slightsFirst_78 rfl ?_
  refine v_if_eq (pc := 81) (tgt := 88) K dX12_slightsFirst_81 (by decide) hF (fun c24 hF => ?_) (fun c24 hF => ?_)
  · refine v_iconst (pc := 88) (v := 0) K dX12_slightsFirst_88 rfl ?_
    refine v_sub [] rfl ?_
    exact bX12_slightsFirst_89 l K hy hQ hF
  · refine v_iconst (pc := 84) (v := 1) K dX12_slightsFirst_84 rfl ?_
    refine v_goto (pc := 85) (tgt := 89) K dX12_slightsFirst_85 (by decide) ?_
    refine v_sub [] rfl ?_
    exact bX12_slightsFirst_89 l K hy hQ hF
def fX12_slightsFirst (M : QM) (x1 : Int32) (x2 : Int32) : Option QM := (if q_in (0 : Int32) 2 then (q_t (p_a M 1000 30 (0 : Int32).toNatClampNeg (0 : Int32)) fun M2 => (if q_in (1 : Int32) 2 then (q_t (p_a M2 1000 30 (1 : Int32).toNatClampNeg (0 : Int32)) fun M4 => (q_t (p_i M4 1000 31 (0 : Int32)) fun M5 => (q_t (p_i M5 1000 32 (-1 : Int32)) fun M6 => (q_t (p_i M6 1000 33 (q_i M6 1000 29)) fun M7 => (q_t (p_i M7 1000 34 (0 : Int32)) fun M8 => (q_t (p_i M8 1000 35 (0 : Int32)) fun M9 => (q_bv (fX12_spoken M9) fun M12 => if x2 = (0 : Int32) then (fX12_slightsFirst_b70 M12 (0 : Int32) (1 : Int32)) else (if q_in (1 : Int32) 2 then (q_b (fX12_degree M12 (q_a M12 1000 27 (1 : Int32).toNatClampNeg) x1) fun r15 M16 => (fX12_slightsFirst_b70 M16 r15 (1 : Int32))) else none)))))))) else none)) else none)
set_option maxRecDepth 100000 in
set_option maxHeartbeats 4000000 in
theorem bX12_slightsFirst_0 {x : Cx} {y : Ly} (l : Launch) (K : VK x l rmX12_slightsFirst y 3 cX12_slightsFirst RX12 wqX12_slightsFirst) (hy : y.2.2.2.2 = 1) {z : QM} (hQ : VQ x y none z none) {M : QM} {x1 : Int32} {x2 : Int32} (hF : fX12_slightsFirst M x1 x2 = some z) : V x y 3 M 0 [(0, .ref (ly_o y 1000)), (1, .int x1), (2, .int x2)] [] := by
  unfold fX12_slightsFirst at hF
  refine v_aload_n (pc := 0) K dX12_slightsFirst_0 0 rfl ?_
  refine gX12_owed (pc := 1) K hy (by decide) jn_X12 (List.mem_cons_of_mem _ jl_X12_59) dX12_slightsFirst_1 ?_
  refine v_iconst (pc := 4) (v := 0) K dX12_slightsFirst_4 rfl ?_
  refine v_iconst (pc := 5) (v := 0) K dX12_slightsFirst_5 rfl ?_
  refine uX12_owed (pc := 6) K hy (by decide) hF dX12_slightsFirst_6 (fun hi1 hF => ?_)
  refine v_nmM hF (fun M2 hF => ?_)
  refine v_aload_n (pc := 7) K dX12_slightsFirst_7 0 rfl ?_
  refine gX12_owed (pc := 8) K hy (by decide) jn_X12 (List.mem_cons_of_mem _ jl_X12_59) dX12_slightsFirst_8 ?_
  refine v_iconst (pc := 11) (v := 1) K dX12_slightsFirst_11 rfl ?_
  refine v_iconst (pc := 12) (v := 0) K dX12_slightsFirst_12 rfl ?_
  refine uX12_owed (pc := 13) K hy (by decide) hF dX12_slightsFirst_13 (fun hi3 hF => ?_)
  refine v_nmM hF (fun M4 hF => ?_)
  refine v_aload_n (pc := 14) K dX12_slightsFirst_14 0 rfl ?_
  refine v_iconst (pc := 15) (v := 0) K dX12_slightsFirst_15 rfl ?_
  refine pX12_turn (pc := 16) K hy (by decide) jn_X12 (List.mem_cons_of_mem _ jl_X12_338) dX12_slightsFirst_16 ?_
  refine v_nmM hF (fun M5 hF => ?_)
  refine v_aload_n (pc := 19) K dX12_slightsFirst_19 0 rfl ?_
  refine v_iconst (pc := 20) (v := -1) K dX12_slightsFirst_20 rfl ?_
  refine pX12_asked (pc := 21) K hy (by decide) jn_X12 (List.mem_cons_of_mem _ jl_X12_344) dX12_slightsFirst_21 ?_
  refine v_nmM hF (fun M6 hF => ?_)
  refine v_aload_n (pc := 24) K dX12_slightsFirst_24 0 rfl ?_
  refine v_aload_n (pc := 25) K dX12_slightsFirst_25 0 rfl ?_
  refine gX12_hoursFirst (pc := 26) K hy (by decide) jn_X12 (List.mem_cons_of_mem _ jl_X12_335) dX12_slightsFirst_26 ?_
  refine pX12_left (pc := 29) K hy (by decide) jn_X12 (List.mem_cons_of_mem _ jl_X12_341) dX12_slightsFirst_29 ?_
  refine v_nmM hF (fun M7 hF => ?_)
  refine v_aload_n (pc := 32) K dX12_slightsFirst_32 0 rfl ?_
  refine v_iconst (pc := 33) (v := 0) K dX12_slightsFirst_33 rfl ?_
  refine pX12_ended (pc := 34) K hy (by decide) jn_X12 (List.mem_cons_of_mem _ jl_X12_347) dX12_slightsFirst_34 ?_
  refine v_nmM hF (fun M8 hF => ?_)
  refine v_aload_n (pc := 37) K dX12_slightsFirst_37 0 rfl ?_
  refine v_iconst (pc := 38) (v := 0) K dX12_slightsFirst_38 rfl ?_
  refine pX12_less (pc := 39) K hy (by decide) jn_X12 (List.mem_cons_of_mem _ jl_X12_350) dX12_slightsFirst_39 ?_
  refine v_nmM hF (fun M9 hF => ?_)
  refine v_aload_n (pc := 42) K dX12_slightsFirst_42 0 rfl ?_
  obtain ⟨M12, hc10, hF⟩ := q_bvE hF
  refine v_callV (pc := 43) (ci := 11) (As := []) (rest := []) (st' := []) (r := none) (M1 := M12) K (kX12_spoken l K.2.2.2.2.2.2.1 hy hc10) (jg_V jl_X12_353 jw_i_X12_spoken jw_s_X12_spoken jw_n_X12 jw_c_X12_spoken) rfl rfl rfl jd_X12_spoken ⟨Nat.le_of_ble_eq_true rfl, Nat.le_of_ble_eq_true rfl⟩ rfl rfl (Nat.le_of_ble_eq_true rfl) (by decide) (okc_1 hy) rfl dX12_slightsFirst_43 rfl ?_
  refine v_aload_n (pc := 46) K dX12_slightsFirst_46 0 rfl ?_
  refine gX12_owed (pc := 47) K hy (by decide) jn_X12 (List.mem_cons_of_mem _ jl_X12_59) dX12_slightsFirst_47 ?_
  refine v_iconst (pc := 50) (v := 1) K dX12_slightsFirst_50 rfl ?_
  refine v_iload_n (pc := 51) K dX12_slightsFirst_51 2 rfl ?_
  refine v_if_eq (pc := 52) (tgt := 69) K dX12_slightsFirst_52 (by decide) hF (fun c17 hF => ?_) (fun c17 hF => ?_)
  · refine v_iconst (pc := 69) (v := 0) K dX12_slightsFirst_69 rfl ?_
    refine v_sub [0] rfl ?_
    exact bX12_slightsFirst_70 l K hy hQ hF
  · refine v_aload_n (pc := 55) K dX12_slightsFirst_55 0 rfl ?_
    refine v_aload_n (pc := 56) K dX12_slightsFirst_56 0 rfl ?_
    refine gX12_keep (pc := 57) K hy (by decide) jn_X12 (List.mem_cons_of_mem _ jl_X12_56) dX12_slightsFirst_57 ?_
    refine v_iconst (pc := 60) (v := 1) K dX12_slightsFirst_60 rfl ?_
    refine iX12_keep (pc := 61) K hy (by decide) hF dX12_slightsFirst_61 (fun hi13 hF => ?_)
    refine v_iload_n (pc := 62) K dX12_slightsFirst_62 1 rfl ?_
    obtain ⟨r15, M16, hc14, hF⟩ := q_bE hF
    refine v_callV (pc := 63) (ci := 11) (As := [.int (q_a M12 1000 27 (1 : Int32).toNatClampNeg), .int x1]) (rest := [.int (1 : Int32), .ref (ly_a y 1000 30)]) (st' := [.int r15, .int (1 : Int32), .ref (ly_a y 1000 30)]) (r := some (.int r15)) (M1 := M16) K (kX12_degree l K.2.2.2.2.2.2.1 hy hc14) (jg_V jl_X12_322 jw_i_X12_degree jw_s_X12_degree jw_n_X12 jw_c_X12_degree) rfl rfl rfl jd_X12_degree ⟨Nat.le_of_ble_eq_true rfl, Nat.le_of_ble_eq_true rfl⟩ rfl rfl (Nat.le_of_ble_eq_true rfl) (by decide) (okc_1 hy) rfl dX12_slightsFirst_63 rfl ?_
    refine v_goto (pc := 66) (tgt := 70) K dX12_slightsFirst_66 (by decide) ?_
    refine v_sub [0] rfl ?_
    exact bX12_slightsFirst_70 l K hy hQ hF
set_option maxRecDepth 100000 in
set_option maxHeartbeats 4000000 in
theorem kX12_slightsFirst (l : Launch) {y : Ly} (hJ : ly_J y) (hy : y.2.2.2.2 = 1) {M M1 : QM} {x1 : Int32} {x2 : Int32} (hF : fX12_slightsFirst M x1 x2 = some M1) : Met l yX12_slightsFirst wqX12_slightsFirst rmX12_slightsFirst (q_P y [.ref (ly_o y 1000), .int x1, .int x2] M) (q_E y none M1) 0 0 (ly_A y) :=
  q_met (by decide) rfl hJ rfl rfl rfl (fun x K hQ => bX12_slightsFirst_0 l K hy (z := M1) hQ  hF)
-- ===== X12_can (I)Z
theorem jd_X12_can : yX12_can.cls = RX12 ∧ yX12_can.cls ≠ "java/lang/invoke/MethodHandle" ∧ yX12_can.cls ≠ "java/lang/invoke/VarHandle" ∧ (parseMethodDescriptor yX12_can.desc).map (fun d => d.parameters.length) = some 1 := by decide +kernel
abbrev wqX12_can : List Cond := .code yX12_can cX12_can 3 (some .boolean) :: wsL_law
abbrev rmX12_can : Room := { frames := 1, cells := 0, slots := 0, locals := 25 }
def fX12_can_b80 (M : QM) (x1 : Int32) : Option (Int32 × QM) := if x1 ≠ (8 : Int32) then some ((0 : Int32), M) else (if q_in (q_i M 1000 31) 2 then (if q_in (q_i M 1000 31) 2 then (if q_in (q_a M 1000 27 (q_i M 1000 31).toNatClampNeg) 6 then (q_t (q_a M 1000 11 (q_a M 1000 27 (q_i M 1000 31).toNatClampNeg).toNatClampNeg) fun v17 => if (q_a M 1000 30 (q_i M 1000 31).toNatClampNeg) < v17 then some ((0 : Int32), M) else some ((1 : Int32), M)) else none) else none) else none)
set_option maxRecDepth 100000 in
set_option maxHeartbeats 4000000 in
theorem bX12_can_80 {x : Cx} {y : Ly} (l : Launch) (K : VK x l rmX12_can y 3 cX12_can RX12 wqX12_can) (hy : y.2.2.2.2 = 1) {z : Int32 × QM} (hQ : VQ x y (some (.int z.1)) z.2 (some .boolean)) {M : QM} {x1 : Int32} (hF : fX12_can_b80 M x1 = some z) : V x y 3 M 80 [(0, .ref (ly_o y 1000)), (1, .int x1)] [] := by
  unfold fX12_can_b80 at hF
  refine v_iload_n (pc := 80) K dX12_can_80 1 rfl ?_
  refine v_bipush (pc := 81) (v := 8) K dX12_can_81 rfl ?_
  refine v_icmp_ne (pc := 83) (tgt := 116) K dX12_can_83 (by decide) hF (fun c19 hF => ?_) (fun c19 hF => ?_)
  · refine v_iconst (pc := 116) (v := 0) K dX12_can_116 rfl ?_
    have hz := (Option.some.inj hF).symm
    subst hz
    exact v_zret (pc := 117) K hQ rfl dX12_can_117
  · refine v_aload_n (pc := 86) K dX12_can_86 0 rfl ?_
    refine gX12_owed (pc := 87) K hy (by decide) jn_X12 (List.mem_cons_of_mem _ jl_X12_59) dX12_can_87 ?_
    refine v_aload_n (pc := 90) K dX12_can_90 0 rfl ?_
    refine gX12_turn (pc := 91) K hy (by decide) jn_X12 (List.mem_cons_of_mem _ jl_X12_338) dX12_can_91 ?_
    refine iX12_owed (pc := 94) K hy (by decide) hF dX12_can_94 (fun hi14 hF => ?_)
    refine v_aload_n (pc := 95) K dX12_can_95 0 rfl ?_
    refine gX12_ask (pc := 96) K hy (by decide) jn_X12 (List.mem_cons_of_mem _ jl_X12_35) dX12_can_96 ?_
    refine v_aload_n (pc := 99) K dX12_can_99 0 rfl ?_
    refine gX12_keep (pc := 100) K hy (by decide) jn_X12 (List.mem_cons_of_mem _ jl_X12_56) dX12_can_100 ?_
    refine v_aload_n (pc := 103) K dX12_can_103 0 rfl ?_
    refine gX12_turn (pc := 104) K hy (by decide) jn_X12 (List.mem_cons_of_mem _ jl_X12_338) dX12_can_104 ?_
    refine iX12_keep (pc := 107) K hy (by decide) hF dX12_can_107 (fun hi15 hF => ?_)
    refine iX12_ask (pc := 108) K hy (by decide) hF dX12_can_108 (fun hi16 hF => ?_)
    refine v_nmI hF (fun v17 hF => ?_)
    refine v_icmp_lt (pc := 109) (tgt := 116) K dX12_can_109 (by decide) hF (fun c18 hF => ?_) (fun c18 hF => ?_)
    · refine v_iconst (pc := 116) (v := 0) K dX12_can_116 rfl ?_
      have hz := (Option.some.inj hF).symm
      subst hz
      exact v_zret (pc := 117) K hQ rfl dX12_can_117
    · refine v_iconst (pc := 112) (v := 1) K dX12_can_112 rfl ?_
      refine v_goto (pc := 113) (tgt := 117) K dX12_can_113 (by decide) ?_
      have hz := (Option.some.inj hF).symm
      subst hz
      exact v_zret (pc := 117) K hQ rfl dX12_can_117
def fX12_can (M : QM) (x1 : Int32) : Option (Int32 × QM) := if (0 : Int32) < (q_i M 1000 34) then some ((0 : Int32), M) else (q_b (fX12_in M (Int32.toInt64 x1) (0 : Int64) (10 : Int64)) fun r2 M3 => if r2 ≠ (0 : Int32) then if (q_i M3 1000 32) ≠ ((1 : Int32) - (q_i M3 1000 31)) then if x1 < (4 : Int32) then some ((1 : Int32), M3) else if x1 = (10 : Int32) then some ((1 : Int32), M3) else if (8 : Int32) ≤ x1 then (fX12_can_b80 M3 x1) else (if q_in ((1 : Int32) - (q_i M3 1000 31)) 2 then if (0 : Int32) < (q_a M3 1000 30 ((1 : Int32) - (q_i M3 1000 31)).toNatClampNeg) then some ((1 : Int32), M3) else (fX12_can_b80 M3 x1) else none) else if x1 = (8 : Int32) then some ((1 : Int32), M3) else if x1 ≠ (9 : Int32) then some ((0 : Int32), M3) else some ((1 : Int32), M3) else some ((0 : Int32), M3))
set_option maxRecDepth 100000 in
set_option maxHeartbeats 4000000 in
theorem bX12_can_0 {x : Cx} {y : Ly} (l : Launch) (K : VK x l rmX12_can y 3 cX12_can RX12 wqX12_can) (hy : y.2.2.2.2 = 1) {z : Int32 × QM} (hQ : VQ x y (some (.int z.1)) z.2 (some .boolean)) {M : QM} {x1 : Int32} (hF : fX12_can M x1 = some z) : V x y 3 M 0 [(0, .ref (ly_o y 1000)), (1, .int x1)] [] := by
  unfold fX12_can at hF
  refine v_aload_n (pc := 0) K dX12_can_0 0 rfl ?_
  refine gX12_ended (pc := 1) K hy (by decide) jn_X12 (List.mem_cons_of_mem _ jl_X12_347) dX12_can_1 ?_
  refine v_if_gt (pc := 4) (tgt := 19) K dX12_can_4 (by decide) hF (fun c13 hF => ?_) (fun c13 hF => ?_)
  · refine v_iconst (pc := 19) (v := 0) K dX12_can_19 rfl ?_
    have hz := (Option.some.inj hF).symm
    subst hz
    exact v_zret (pc := 20) K hQ rfl dX12_can_20
  · refine v_iload_n (pc := 7) K dX12_can_7 1 rfl ?_
    refine v_i2l (pc := 8) K dX12_can_8 ?_
    refine v_lconst (pc := 9) (v := 0) K dX12_can_9 rfl ?_
    refine v_ldc2 (pc := 10) (v := 10) K dX12_can_10 (List.mem_cons_of_mem _ jl_X12_359) ?_
    obtain ⟨r2, M3, hc1, hF⟩ := q_bE hF
    refine v_callS (pc := 13) (As := [.long (Int32.toInt64 x1), .long (0 : Int64), .long (10 : Int64)]) (rest := []) (st' := [.int r2]) (r := some (.int r2)) (M1 := M3) K (kX12_in l K.2.2.2.2.2.2.1 hy hc1) (jg_S jl_X12_97 jw_t_X12_in jw_n_X12 jw_c_X12_in) rfl rfl rfl jd_X12_in ⟨Nat.le_of_ble_eq_true rfl, Nat.le_of_ble_eq_true rfl⟩ rfl rfl (Nat.le_of_ble_eq_true rfl) dX12_can_13 rfl ?_
    refine v_if_ne (pc := 16) (tgt := 21) K dX12_can_16 (by decide) hF (fun c12 hF => ?_) (fun c12 hF => ?_)
    · refine v_iconst (pc := 21) (v := 1) K dX12_can_21 rfl ?_
      refine v_aload_n (pc := 22) K dX12_can_22 0 rfl ?_
      refine gX12_turn (pc := 23) K hy (by decide) jn_X12 (List.mem_cons_of_mem _ jl_X12_338) dX12_can_23 ?_
      refine v_isub (pc := 26) K dX12_can_26 ?_
      refine v_istore_n (pc := 27) (lv' := [(2, .int ((1 : Int32) - (q_i M3 1000 31))), (0, .ref (ly_o y 1000)), (1, .int x1)]) K dX12_can_27 2 rfl (by decide) rfl ?_
      refine v_aload_n (pc := 28) K dX12_can_28 1 rfl ?_
      refine gX12_asked (pc := 29) K hy (by decide) jn_X12 (List.mem_cons_of_mem _ jl_X12_344) dX12_can_29 ?_
      refine v_iload_n (pc := 32) K dX12_can_32 0 rfl ?_
      refine v_icmp_ne (pc := 33) (tgt := 54) K dX12_can_33 (by decide) hF (fun c11 hF => ?_) (fun c11 hF => ?_)
      · refine v_iload_n (pc := 54) K dX12_can_54 2 rfl ?_
        refine v_iconst (pc := 55) (v := 4) K dX12_can_55 rfl ?_
        refine v_icmp_lt (pc := 56) (tgt := 112) K dX12_can_56 (by decide) hF (fun c8 hF => ?_) (fun c8 hF => ?_)
        · refine v_iconst (pc := 112) (v := 1) K dX12_can_112 rfl ?_
          refine v_goto (pc := 113) (tgt := 117) K dX12_can_113 (by decide) ?_
          have hz := (Option.some.inj hF).symm
          subst hz
          exact v_zret (pc := 117) K hQ rfl dX12_can_117
        · refine v_iload_n (pc := 59) K dX12_can_59 2 rfl ?_
          refine v_bipush (pc := 60) (v := 10) K dX12_can_60 rfl ?_
          refine v_icmp_eq (pc := 62) (tgt := 112) K dX12_can_62 (by decide) hF (fun c7 hF => ?_) (fun c7 hF => ?_)
          · refine v_iconst (pc := 112) (v := 1) K dX12_can_112 rfl ?_
            refine v_goto (pc := 113) (tgt := 117) K dX12_can_113 (by decide) ?_
            have hz := (Option.some.inj hF).symm
            subst hz
            exact v_zret (pc := 117) K hQ rfl dX12_can_117
          · refine v_iload_n (pc := 65) K dX12_can_65 2 rfl ?_
            refine v_bipush (pc := 66) (v := 8) K dX12_can_66 rfl ?_
            refine v_icmp_ge (pc := 68) (tgt := 80) K dX12_can_68 (by decide) hF (fun c6 hF => ?_) (fun c6 hF => ?_)
            · refine v_sub [1, 2] rfl ?_
              exact bX12_can_80 l K hy hQ hF
            · refine v_aload_n (pc := 71) K dX12_can_71 1 rfl ?_
              refine gX12_owed (pc := 72) K hy (by decide) jn_X12 (List.mem_cons_of_mem _ jl_X12_59) dX12_can_72 ?_
              refine v_iload_n (pc := 75) K dX12_can_75 0 rfl ?_
              refine iX12_owed (pc := 76) K hy (by decide) hF dX12_can_76 (fun hi4 hF => ?_)
              refine v_if_gt (pc := 77) (tgt := 112) K dX12_can_77 (by decide) hF (fun c5 hF => ?_) (fun c5 hF => ?_)
              · refine v_iconst (pc := 112) (v := 1) K dX12_can_112 rfl ?_
                refine v_goto (pc := 113) (tgt := 117) K dX12_can_113 (by decide) ?_
                have hz := (Option.some.inj hF).symm
                subst hz
                exact v_zret (pc := 117) K hQ rfl dX12_can_117
              · refine v_sub [1, 2] rfl ?_
                exact bX12_can_80 l K hy hQ hF
      · refine v_iload_n (pc := 36) K dX12_can_36 2 rfl ?_
        refine v_bipush (pc := 37) (v := 8) K dX12_can_37 rfl ?_
        refine v_icmp_eq (pc := 39) (tgt := 48) K dX12_can_39 (by decide) hF (fun c10 hF => ?_) (fun c10 hF => ?_)
        · refine v_iconst (pc := 48) (v := 1) K dX12_can_48 rfl ?_
          refine v_goto (pc := 49) (tgt := 53) K dX12_can_49 (by decide) ?_
          have hz := (Option.some.inj hF).symm
          subst hz
          exact v_zret (pc := 53) K hQ rfl dX12_can_53
        · refine v_iload_n (pc := 42) K dX12_can_42 2 rfl ?_
          refine v_bipush (pc := 43) (v := 9) K dX12_can_43 rfl ?_
          refine v_icmp_ne (pc := 45) (tgt := 52) K dX12_can_45 (by decide) hF (fun c9 hF => ?_) (fun c9 hF => ?_)
          · refine v_iconst (pc := 52) (v := 0) K dX12_can_52 rfl ?_
            have hz := (Option.some.inj hF).symm
            subst hz
            exact v_zret (pc := 53) K hQ rfl dX12_can_53
          · refine v_iconst (pc := 48) (v := 1) K dX12_can_48 rfl ?_
            refine v_goto (pc := 49) (tgt := 53) K dX12_can_49 (by decide) ?_
            have hz := (Option.some.inj hF).symm
            subst hz
            exact v_zret (pc := 53) K hQ rfl dX12_can_53
    · refine v_iconst (pc := 19) (v := 0) K dX12_can_19 rfl ?_
      have hz := (Option.some.inj hF).symm
      subst hz
      exact v_zret (pc := 20) K hQ rfl dX12_can_20
set_option maxRecDepth 100000 in
set_option maxHeartbeats 4000000 in
theorem kX12_can (l : Launch) {y : Ly} (hJ : ly_J y) (hy : y.2.2.2.2 = 1) {M M1 : QM} {r : Int32} {x1 : Int32} (hF : fX12_can M x1 = some (r, M1)) : Met l yX12_can wqX12_can rmX12_can (q_P y [.ref (ly_o y 1000), .int x1] M) (q_E y (some (.int r)) M1) 0 0 (ly_A y) :=
  q_met (by decide) rfl hJ rfl rfl rfl (fun x K hQ => bX12_can_0 l K hy (z := (r, M1)) hQ  hF)
-- ===== X12_does (IZ)V
theorem jd_X12_does : yX12_does.cls = RX12 ∧ yX12_does.cls ≠ "java/lang/invoke/MethodHandle" ∧ yX12_does.cls ≠ "java/lang/invoke/VarHandle" ∧ (parseMethodDescriptor yX12_does.desc).map (fun d => d.parameters.length) = some 2 := by decide +kernel
abbrev wqX12_does : List Cond := .code yX12_does cX12_does 6 none :: wsL_law
abbrev rmX12_does : Room := { frames := 4, cells := 0, slots := 0, locals := 101 }
def fX12_does_b71 (M : QM) (s0 : Int32) : Option QM := (q_t (p_i M 1000 35 s0) fun M22 => some M22)
set_option maxRecDepth 100000 in
set_option maxHeartbeats 4000000 in
theorem bX12_does_71 {x : Cx} {y : Ly} (l : Launch) (K : VK x l rmX12_does y 6 cX12_does RX12 wqX12_does) (hy : y.2.2.2.2 = 1) {z : QM} (hQ : VQ x y none z none) {M : QM} {s0 : Int32} (hF : fX12_does_b71 M s0 = some z) : V x y 6 M 71 [] [.int s0, .ref (ly_o y 1000)] := by
  unfold fX12_does_b71 at hF
  refine pX12_less (pc := 71) K hy (by decide) jn_X12 (List.mem_cons_of_mem _ jl_X12_350) dX12_does_71 ?_
  refine v_nmM hF (fun M22 hF => ?_)
  have hz := (Option.some.inj hF).symm
  subst hz
  exact v_vret (pc := 74) K hQ dX12_does_74
def fX12_does_b294 (M : QM) (s0 : Int32) (s1 : Int32) : Option QM := (q_t (p_i M 1000 35 (s1 + s0)) fun M43 => some M43)
set_option maxRecDepth 100000 in
set_option maxHeartbeats 4000000 in
theorem bX12_does_294 {x : Cx} {y : Ly} (l : Launch) (K : VK x l rmX12_does y 6 cX12_does RX12 wqX12_does) (hy : y.2.2.2.2 = 1) {z : QM} (hQ : VQ x y none z none) {M : QM} {s0 : Int32} {s1 : Int32} (hF : fX12_does_b294 M s0 s1 = some z) : V x y 6 M 294 [] [.int s0, .int s1, .ref (ly_o y 1000)] := by
  unfold fX12_does_b294 at hF
  refine v_iadd (pc := 294) K dX12_does_294 ?_
  refine pX12_less (pc := 295) K hy (by decide) jn_X12 (List.mem_cons_of_mem _ jl_X12_350) dX12_does_295 ?_
  refine v_nmM hF (fun M43 hF => ?_)
  have hz := (Option.some.inj hF).symm
  subst hz
  exact v_vret (pc := 298) K hQ dX12_does_298
def fX12_does_b269 (M : QM) (s0 : Int32) : Option QM := (if q_in (1 : Int32) 2 then (if q_in (1 : Int32) 2 then (if q_in (q_a M 1000 27 (1 : Int32).toNatClampNeg) 6 then if (q_a M 1000 30 (1 : Int32).toNatClampNeg) < (q_a M 1000 13 (q_a M 1000 27 (1 : Int32).toNatClampNeg).toNatClampNeg) then (fX12_does_b294 M (0 : Int32) s0) else (fX12_does_b294 M (2 : Int32) s0) else none) else none) else none)
set_option maxRecDepth 100000 in
set_option maxHeartbeats 4000000 in
theorem bX12_does_269 {x : Cx} {y : Ly} (l : Launch) (K : VK x l rmX12_does y 6 cX12_does RX12 wqX12_does) (hy : y.2.2.2.2 = 1) {z : QM} (hQ : VQ x y none z none) {M : QM} {s0 : Int32} (hF : fX12_does_b269 M s0 = some z) : V x y 6 M 269 [(0, .ref (ly_o y 1000))] [.int s0, .ref (ly_o y 1000)] := by
  unfold fX12_does_b269 at hF
  refine v_aload_n (pc := 269) K dX12_does_269 0 rfl ?_
  refine gX12_owed (pc := 270) K hy (by decide) jn_X12 (List.mem_cons_of_mem _ jl_X12_59) dX12_does_270 ?_
  refine v_iconst (pc := 273) (v := 1) K dX12_does_273 rfl ?_
  refine iX12_owed (pc := 274) K hy (by decide) hF dX12_does_274 (fun hi39 hF => ?_)
  refine v_aload_n (pc := 275) K dX12_does_275 0 rfl ?_
  refine gX12_must (pc := 276) K hy (by decide) jn_X12 (List.mem_cons_of_mem _ jl_X12_41) dX12_does_276 ?_
  refine v_aload_n (pc := 279) K dX12_does_279 0 rfl ?_
  refine gX12_keep (pc := 280) K hy (by decide) jn_X12 (List.mem_cons_of_mem _ jl_X12_56) dX12_does_280 ?_
  refine v_iconst (pc := 283) (v := 1) K dX12_does_283 rfl ?_
  refine iX12_keep (pc := 284) K hy (by decide) hF dX12_does_284 (fun hi40 hF => ?_)
  refine iX12_must (pc := 285) K hy (by decide) hF dX12_does_285 (fun hi41 hF => ?_)
  refine v_icmp_lt (pc := 286) (tgt := 293) K dX12_does_286 (by decide) hF (fun c42 hF => ?_) (fun c42 hF => ?_)
  · refine v_iconst (pc := 293) (v := 0) K dX12_does_293 rfl ?_
    refine v_sub [] rfl ?_
    exact bX12_does_294 l K hy hQ hF
  · refine v_iconst (pc := 289) (v := 2) K dX12_does_289 rfl ?_
    refine v_goto (pc := 290) (tgt := 294) K dX12_does_290 (by decide) ?_
    refine v_sub [] rfl ?_
    exact bX12_does_294 l K hy hQ hF
def fX12_does_b201 (M : QM) (x4 : Int32) : Option QM := (q_b (fX12_isPeace M) fun r26 M27 => if r26 = (0 : Int32) then (q_t (p_i M27 1000 33 ((q_i M27 1000 33) - (1 : Int32))) fun M28 => (q_t (p_i M28 1000 31 x4) fun M29 => if (q_i M29 1000 33) ≤ (0 : Int32) then (q_t (p_i M29 1000 34 (4 : Int32)) fun M30 => (if q_in (0 : Int32) 2 then (if q_in (0 : Int32) 2 then (if q_in (q_a M30 1000 27 (0 : Int32).toNatClampNeg) 6 then (q_t (q_a M30 1000 13 (q_a M30 1000 27 (0 : Int32).toNatClampNeg).toNatClampNeg) fun v34 => if (q_a M30 1000 30 (0 : Int32).toNatClampNeg) < v34 then (fX12_does_b269 M30 (0 : Int32)) else (fX12_does_b269 M30 (1 : Int32))) else none) else none) else none)) else some M29)) else (q_t (p_i M27 1000 34 (1 : Int32)) fun M37 => some M37))
set_option maxRecDepth 100000 in
set_option maxHeartbeats 4000000 in
theorem bX12_does_201 {x : Cx} {y : Ly} (l : Launch) (K : VK x l rmX12_does y 6 cX12_does RX12 wqX12_does) (hy : y.2.2.2.2 = 1) {z : QM} (hQ : VQ x y none z none) {M : QM} {x4 : Int32} (hF : fX12_does_b201 M x4 = some z) : V x y 6 M 201 [(0, .ref (ly_o y 1000)), (4, .int x4)] [] := by
  unfold fX12_does_b201 at hF
  refine v_aload_n (pc := 201) K dX12_does_201 0 rfl ?_
  obtain ⟨r26, M27, hc25, hF⟩ := q_bE hF
  refine v_callV (pc := 202) (ci := 11) (As := []) (rest := []) (st' := [.int r26]) (r := some (.int r26)) (M1 := M27) K (kX12_isPeace l K.2.2.2.2.2.2.1 hy hc25) (jg_V jl_X12_356 jw_i_X12_isPeace jw_s_X12_isPeace jw_n_X12 jw_c_X12_isPeace) rfl rfl rfl jd_X12_isPeace ⟨Nat.le_of_ble_eq_true rfl, Nat.le_of_ble_eq_true rfl⟩ rfl rfl (Nat.le_of_ble_eq_true rfl) (by decide) (okc_1 hy) rfl dX12_does_202 rfl ?_
  refine v_if_eq (pc := 205) (tgt := 214) K dX12_does_205 (by decide) hF (fun c38 hF => ?_) (fun c38 hF => ?_)
  · refine v_aload_n (pc := 214) K dX12_does_214 0 rfl ?_
    refine v_dup (pc := 215) K dX12_does_215 rfl ?_
    refine gX12_left (pc := 216) K hy (by decide) jn_X12 (List.mem_cons_of_mem _ jl_X12_341) dX12_does_216 ?_
    refine v_iconst (pc := 219) (v := 1) K dX12_does_219 rfl ?_
    refine v_isub (pc := 220) K dX12_does_220 ?_
    refine pX12_left (pc := 221) K hy (by decide) jn_X12 (List.mem_cons_of_mem _ jl_X12_341) dX12_does_221 ?_
    refine v_nmM hF (fun M28 hF => ?_)
    refine v_aload_n (pc := 224) K dX12_does_224 0 rfl ?_
    refine v_iload (pc := 225) K dX12_does_225 1 rfl ?_
    refine pX12_turn (pc := 227) K hy (by decide) jn_X12 (List.mem_cons_of_mem _ jl_X12_338) dX12_does_227 ?_
    refine v_nmM hF (fun M29 hF => ?_)
    refine v_aload_n (pc := 230) K dX12_does_230 0 rfl ?_
    refine gX12_left (pc := 231) K hy (by decide) jn_X12 (List.mem_cons_of_mem _ jl_X12_341) dX12_does_231 ?_
    refine v_if_le (pc := 234) (tgt := 238) K dX12_does_234 (by decide) hF (fun c36 hF => ?_) (fun c36 hF => ?_)
    · refine v_aload_n (pc := 238) K dX12_does_238 0 rfl ?_
      refine v_iconst (pc := 239) (v := 4) K dX12_does_239 rfl ?_
      refine pX12_ended (pc := 240) K hy (by decide) jn_X12 (List.mem_cons_of_mem _ jl_X12_347) dX12_does_240 ?_
      refine v_nmM hF (fun M30 hF => ?_)
      refine v_aload_n (pc := 243) K dX12_does_243 0 rfl ?_
      refine v_aload_n (pc := 244) K dX12_does_244 0 rfl ?_
      refine gX12_owed (pc := 245) K hy (by decide) jn_X12 (List.mem_cons_of_mem _ jl_X12_59) dX12_does_245 ?_
      refine v_iconst (pc := 248) (v := 0) K dX12_does_248 rfl ?_
      refine iX12_owed (pc := 249) K hy (by decide) hF dX12_does_249 (fun hi31 hF => ?_)
      refine v_aload_n (pc := 250) K dX12_does_250 0 rfl ?_
      refine gX12_must (pc := 251) K hy (by decide) jn_X12 (List.mem_cons_of_mem _ jl_X12_41) dX12_does_251 ?_
      refine v_aload_n (pc := 254) K dX12_does_254 0 rfl ?_
      refine gX12_keep (pc := 255) K hy (by decide) jn_X12 (List.mem_cons_of_mem _ jl_X12_56) dX12_does_255 ?_
      refine v_iconst (pc := 258) (v := 0) K dX12_does_258 rfl ?_
      refine iX12_keep (pc := 259) K hy (by decide) hF dX12_does_259 (fun hi32 hF => ?_)
      refine iX12_must (pc := 260) K hy (by decide) hF dX12_does_260 (fun hi33 hF => ?_)
      refine v_nmI hF (fun v34 hF => ?_)
      refine v_icmp_lt (pc := 261) (tgt := 268) K dX12_does_261 (by decide) hF (fun c35 hF => ?_) (fun c35 hF => ?_)
      · refine v_iconst (pc := 268) (v := 0) K dX12_does_268 rfl ?_
        refine v_sub [0] rfl ?_
        exact bX12_does_269 l K hy hQ hF
      · refine v_iconst (pc := 264) (v := 1) K dX12_does_264 rfl ?_
        refine v_goto (pc := 265) (tgt := 269) K dX12_does_265 (by decide) ?_
        refine v_sub [0] rfl ?_
        exact bX12_does_269 l K hy hQ hF
    · have hz := (Option.some.inj hF).symm
      subst hz
      exact v_vret (pc := 237) K hQ dX12_does_237
  · refine v_aload_n (pc := 208) K dX12_does_208 0 rfl ?_
    refine v_iconst (pc := 209) (v := 1) K dX12_does_209 rfl ?_
    refine pX12_ended (pc := 210) K hy (by decide) jn_X12 (List.mem_cons_of_mem _ jl_X12_347) dX12_does_210 ?_
    refine v_nmM hF (fun M37 hF => ?_)
    have hz := (Option.some.inj hF).symm
    subst hz
    exact v_vret (pc := 213) K hQ dX12_does_213
def fX12_does_b126 (M : QM) (x4 : Int32) (s0 : Int32) (s1 : Int32) : Option QM := (if q_in s1 2 then (q_t (p_a M 1000 30 s1.toNatClampNeg s0) fun M24 => (fX12_does_b201 M24 x4)) else none)
set_option maxRecDepth 100000 in
set_option maxHeartbeats 4000000 in
theorem bX12_does_126 {x : Cx} {y : Ly} (l : Launch) (K : VK x l rmX12_does y 6 cX12_does RX12 wqX12_does) (hy : y.2.2.2.2 = 1) {z : QM} (hQ : VQ x y none z none) {M : QM} {x4 : Int32} {s0 : Int32} {s1 : Int32} (hF : fX12_does_b126 M x4 s0 s1 = some z) : V x y 6 M 126 [(0, .ref (ly_o y 1000)), (4, .int x4)] [.int s0, .int s1, .ref (ly_a y 1000 30)] := by
  unfold fX12_does_b126 at hF
  refine uX12_owed (pc := 126) K hy (by decide) hF dX12_does_126 (fun hi23 hF => ?_)
  refine v_nmM hF (fun M24 hF => ?_)
  refine v_goto (pc := 127) (tgt := 201) K dX12_does_127 (by decide) ?_
  exact bX12_does_201 l K hy hQ hF
def fX12_does_b186 (M : QM) (x4 : Int32) (s0 : Int32) (s1 : Int32) : Option QM := (if q_in s1 2 then (q_t (p_a M 1000 30 s1.toNatClampNeg s0) fun M54 => (fX12_does_b201 M54 x4)) else none)
set_option maxRecDepth 100000 in
set_option maxHeartbeats 4000000 in
theorem bX12_does_186 {x : Cx} {y : Ly} (l : Launch) (K : VK x l rmX12_does y 6 cX12_does RX12 wqX12_does) (hy : y.2.2.2.2 = 1) {z : QM} (hQ : VQ x y none z none) {M : QM} {x4 : Int32} {s0 : Int32} {s1 : Int32} (hF : fX12_does_b186 M x4 s0 s1 = some z) : V x y 6 M 186 [(0, .ref (ly_o y 1000)), (4, .int x4)] [.int s0, .int s1, .ref (ly_a y 1000 30)] := by
  unfold fX12_does_b186 at hF
  refine uX12_owed (pc := 186) K hy (by decide) hF dX12_does_186 (fun hi53 hF => ?_)
  refine v_nmM hF (fun M54 hF => ?_)
  refine v_goto (pc := 187) (tgt := 201) K dX12_does_187 (by decide) ?_
  exact bX12_does_201 l K hy hQ hF
def fX12_does_b190 (M : QM) (x1 : Int32) (x3 : Int32) (x4 : Int32) : Option QM := if x1 ≠ (8 : Int32) then (fX12_does_b201 M x4) else (q_t (p_i M 1000 32 x3) fun M55 => (fX12_does_b201 M55 x4))
set_option maxRecDepth 100000 in
set_option maxHeartbeats 4000000 in
theorem bX12_does_190 {x : Cx} {y : Ly} (l : Launch) (K : VK x l rmX12_does y 6 cX12_does RX12 wqX12_does) (hy : y.2.2.2.2 = 1) {z : QM} (hQ : VQ x y none z none) {M : QM} {x1 : Int32} {x3 : Int32} {x4 : Int32} (hF : fX12_does_b190 M x1 x3 x4 = some z) : V x y 6 M 190 [(0, .ref (ly_o y 1000)), (1, .int x1), (3, .int x3), (4, .int x4)] [] := by
  unfold fX12_does_b190 at hF
  refine v_iload_n (pc := 190) K dX12_does_190 1 rfl ?_
  refine v_bipush (pc := 191) (v := 8) K dX12_does_191 rfl ?_
  refine v_icmp_ne (pc := 193) (tgt := 201) K dX12_does_193 (by decide) hF (fun c56 hF => ?_) (fun c56 hF => ?_)
  · refine v_sub [0, 3] rfl ?_
    exact bX12_does_201 l K hy hQ hF
  · refine v_aload_n (pc := 196) K dX12_does_196 0 rfl ?_
    refine v_iload_n (pc := 197) K dX12_does_197 2 rfl ?_
    refine pX12_asked (pc := 198) K hy (by decide) jn_X12 (List.mem_cons_of_mem _ jl_X12_344) dX12_does_198 ?_
    refine v_nmM hF (fun M55 hF => ?_)
    refine v_sub [0, 3] rfl ?_
    exact bX12_does_201 l K hy hQ hF
def fX12_does_b130 (M : QM) (x1 : Int32) (x2 : Int32) (x3 : Int32) (x4 : Int32) : Option QM := if (8 : Int32) ≤ x1 then (fX12_does_b190 M x1 x3 x4) else if x1 ≤ (3 : Int32) then (fX12_does_b190 M x1 x3 x4) else if x2 = (0 : Int32) then (fX12_does_b190 M x1 x3 x4) else (if q_in x4 2 then (if q_in x4 2 then (q_b (fX12_takes M (q_a M 1000 27 x4.toNatClampNeg) (x1 - (4 : Int32))) fun r47 M48 => if (0 : Int32) ≤ ((q_a M 1000 30 x4.toNatClampNeg) - r47) then (fX12_does_b186 M48 x4 ((q_a M 1000 30 x4.toNatClampNeg) - r47) x4) else (fX12_does_b186 M48 x4 (0 : Int32) x4)) else none) else none)
set_option maxRecDepth 100000 in
set_option maxHeartbeats 4000000 in
theorem bX12_does_130 {x : Cx} {y : Ly} (l : Launch) (K : VK x l rmX12_does y 6 cX12_does RX12 wqX12_does) (hy : y.2.2.2.2 = 1) {z : QM} (hQ : VQ x y none z none) {M : QM} {x1 : Int32} {x2 : Int32} {x3 : Int32} {x4 : Int32} (hF : fX12_does_b130 M x1 x2 x3 x4 = some z) : V x y 6 M 130 [(0, .ref (ly_o y 1000)), (1, .int x1), (2, .int x2), (3, .int x3), (4, .int x4)] [] := by
  unfold fX12_does_b130 at hF
  refine v_iload_n (pc := 130) K dX12_does_130 1 rfl ?_
  refine v_bipush (pc := 131) (v := 8) K dX12_does_131 rfl ?_
  refine v_icmp_ge (pc := 133) (tgt := 190) K dX12_does_133 (by decide) hF (fun c52 hF => ?_) (fun c52 hF => ?_)
  · refine v_sub [0, 1, 3, 4] rfl ?_
    exact bX12_does_190 l K hy hQ hF
  · refine v_iload_n (pc := 136) K dX12_does_136 1 rfl ?_
    refine v_iconst (pc := 137) (v := 3) K dX12_does_137 rfl ?_
    refine v_icmp_le (pc := 138) (tgt := 190) K dX12_does_138 (by decide) hF (fun c51 hF => ?_) (fun c51 hF => ?_)
    · refine v_sub [0, 1, 3, 4] rfl ?_
      exact bX12_does_190 l K hy hQ hF
    · refine v_iload_n (pc := 141) K dX12_does_141 2 rfl ?_
      refine v_if_eq (pc := 142) (tgt := 190) K dX12_does_142 (by decide) hF (fun c50 hF => ?_) (fun c50 hF => ?_)
      · refine v_sub [0, 1, 3, 4] rfl ?_
        exact bX12_does_190 l K hy hQ hF
      · refine v_aload_n (pc := 145) K dX12_does_145 0 rfl ?_
        refine gX12_owed (pc := 146) K hy (by decide) jn_X12 (List.mem_cons_of_mem _ jl_X12_59) dX12_does_146 ?_
        refine v_iload (pc := 149) K dX12_does_149 4 rfl ?_
        refine iX12_owed (pc := 151) K hy (by decide) hF dX12_does_151 (fun hi44 hF => ?_)
        refine v_aload_n (pc := 152) K dX12_does_152 0 rfl ?_
        refine v_aload_n (pc := 153) K dX12_does_153 0 rfl ?_
        refine gX12_keep (pc := 154) K hy (by decide) jn_X12 (List.mem_cons_of_mem _ jl_X12_56) dX12_does_154 ?_
        refine v_iload (pc := 157) K dX12_does_157 4 rfl ?_
        refine iX12_keep (pc := 159) K hy (by decide) hF dX12_does_159 (fun hi45 hF => ?_)
        refine v_iload_n (pc := 160) K dX12_does_160 1 rfl ?_
        refine v_iconst (pc := 161) (v := 4) K dX12_does_161 rfl ?_
        refine v_isub (pc := 162) K dX12_does_162 ?_
        obtain ⟨r47, M48, hc46, hF⟩ := q_bE hF
        refine v_callV (pc := 163) (ci := 11) (As := [.int (q_a M 1000 27 x4.toNatClampNeg), .int (x1 - (4 : Int32))]) (rest := [.int (q_a M 1000 30 x4.toNatClampNeg)]) (st' := [.int r47, .int (q_a M 1000 30 x4.toNatClampNeg)]) (r := some (.int r47)) (M1 := M48) K (kX12_takes l K.2.2.2.2.2.2.1 hy hc46) (jg_V jl_X12_326 jw_i_X12_takes jw_s_X12_takes jw_n_X12 jw_c_X12_takes) rfl rfl rfl jd_X12_takes ⟨Nat.le_of_ble_eq_true rfl, Nat.le_of_ble_eq_true rfl⟩ rfl rfl (Nat.le_of_ble_eq_true rfl) (by decide) (okc_1 hy) rfl dX12_does_163 rfl ?_
        refine v_isub (pc := 166) K dX12_does_166 ?_
        refine v_istore (pc := 167) (lv' := [(5, .int ((q_a M 1000 30 x4.toNatClampNeg) - r47)), (0, .ref (ly_o y 1000)), (1, .int x1), (2, .int x2), (3, .int x3), (4, .int x4)]) K 5 dX12_does_167 (by decide) rfl ?_
        refine v_aload_n (pc := 169) K dX12_does_169 1 rfl ?_
        refine gX12_owed (pc := 170) K hy (by decide) jn_X12 (List.mem_cons_of_mem _ jl_X12_59) dX12_does_170 ?_
        refine v_iload (pc := 173) K dX12_does_173 5 rfl ?_
        refine v_iload (pc := 175) K dX12_does_175 0 rfl ?_
        refine v_if_ge (pc := 177) (tgt := 184) K dX12_does_177 (by decide) hF (fun c49 hF => ?_) (fun c49 hF => ?_)
        · refine v_iload (pc := 184) K dX12_does_184 0 rfl ?_
          refine v_sub [1, 5] rfl ?_
          exact bX12_does_186 l K hy hQ hF
        · refine v_iconst (pc := 180) (v := 0) K dX12_does_180 rfl ?_
          refine v_goto (pc := 181) (tgt := 186) K dX12_does_181 (by decide) ?_
          refine v_sub [1, 5] rfl ?_
          exact bX12_does_186 l K hy hQ hF
def fX12_does_b34 (M : QM) (x1 : Int32) (x2 : Int32) (x3 : Int32) (x4 : Int32) : Option QM := (q_bv (fX12_spoken M) fun M6 => if x1 ≠ (9 : Int32) then if (4 : Int32) ≤ x1 then (fX12_does_b130 M6 x1 x2 x3 x4) else if x2 = (0 : Int32) then (fX12_does_b130 M6 x1 x2 x3 x4) else (if q_in x4 2 then (if q_in x4 2 then (q_b (fX12_degree M6 (q_a M6 1000 27 x4.toNatClampNeg) x1) fun r10 M11 => if ((q_a M6 1000 30 x4.toNatClampNeg) + r10) ≤ (15 : Int32) then (fX12_does_b126 M11 x4 ((q_a M6 1000 30 x4.toNatClampNeg) + r10) x4) else (fX12_does_b126 M11 x4 (15 : Int32) x4)) else none) else none) else (q_t (p_i M6 1000 34 (3 : Int32)) fun M15 => (if q_in x4 2 then (q_b (fX12_mayRefuse M15 (q_a M15 1000 27 x4.toNatClampNeg)) fun r18 M19 => if r18 = (0 : Int32) then (fX12_does_b71 M19 ((1 : Int32) <<< (x3 &&& (31 : Int32)))) else (fX12_does_b71 M19 (0 : Int32))) else none)))
set_option maxRecDepth 100000 in
set_option maxHeartbeats 4000000 in
theorem bX12_does_34 {x : Cx} {y : Ly} (l : Launch) (K : VK x l rmX12_does y 6 cX12_does RX12 wqX12_does) (hy : y.2.2.2.2 = 1) {z : QM} (hQ : VQ x y none z none) {M : QM} {x1 : Int32} {x2 : Int32} {x3 : Int32} {x4 : Int32} (hF : fX12_does_b34 M x1 x2 x3 x4 = some z) : V x y 6 M 34 [(0, .ref (ly_o y 1000)), (1, .int x1), (2, .int x2), (3, .int x3), (4, .int x4)] [] := by
  unfold fX12_does_b34 at hF
  refine v_aload_n (pc := 34) K dX12_does_34 0 rfl ?_
  obtain ⟨M6, hc4, hF⟩ := q_bvE hF
  refine v_callV (pc := 35) (ci := 11) (As := []) (rest := []) (st' := []) (r := none) (M1 := M6) K (kX12_spoken l K.2.2.2.2.2.2.1 hy hc4) (jg_V jl_X12_353 jw_i_X12_spoken jw_s_X12_spoken jw_n_X12 jw_c_X12_spoken) rfl rfl rfl jd_X12_spoken ⟨Nat.le_of_ble_eq_true rfl, Nat.le_of_ble_eq_true rfl⟩ rfl rfl (Nat.le_of_ble_eq_true rfl) (by decide) (okc_1 hy) rfl dX12_does_35 rfl ?_
  refine v_iload_n (pc := 38) K dX12_does_38 1 rfl ?_
  refine v_bipush (pc := 39) (v := 9) K dX12_does_39 rfl ?_
  refine v_icmp_ne (pc := 41) (tgt := 75) K dX12_does_41 (by decide) hF (fun c21 hF => ?_) (fun c21 hF => ?_)
  · refine v_iload_n (pc := 75) K dX12_does_75 1 rfl ?_
    refine v_iconst (pc := 76) (v := 4) K dX12_does_76 rfl ?_
    refine v_icmp_ge (pc := 77) (tgt := 130) K dX12_does_77 (by decide) hF (fun c14 hF => ?_) (fun c14 hF => ?_)
    · exact bX12_does_130 l K hy hQ hF
    · refine v_iload_n (pc := 80) K dX12_does_80 2 rfl ?_
      refine v_if_eq (pc := 81) (tgt := 130) K dX12_does_81 (by decide) hF (fun c13 hF => ?_) (fun c13 hF => ?_)
      · exact bX12_does_130 l K hy hQ hF
      · refine v_aload_n (pc := 84) K dX12_does_84 0 rfl ?_
        refine gX12_owed (pc := 85) K hy (by decide) jn_X12 (List.mem_cons_of_mem _ jl_X12_59) dX12_does_85 ?_
        refine v_iload (pc := 88) K dX12_does_88 4 rfl ?_
        refine iX12_owed (pc := 90) K hy (by decide) hF dX12_does_90 (fun hi7 hF => ?_)
        refine v_aload_n (pc := 91) K dX12_does_91 0 rfl ?_
        refine v_aload_n (pc := 92) K dX12_does_92 0 rfl ?_
        refine gX12_keep (pc := 93) K hy (by decide) jn_X12 (List.mem_cons_of_mem _ jl_X12_56) dX12_does_93 ?_
        refine v_iload (pc := 96) K dX12_does_96 4 rfl ?_
        refine iX12_keep (pc := 98) K hy (by decide) hF dX12_does_98 (fun hi8 hF => ?_)
        refine v_iload_n (pc := 99) K dX12_does_99 1 rfl ?_
        obtain ⟨r10, M11, hc9, hF⟩ := q_bE hF
        refine v_callV (pc := 100) (ci := 11) (As := [.int (q_a M6 1000 27 x4.toNatClampNeg), .int x1]) (rest := [.int (q_a M6 1000 30 x4.toNatClampNeg)]) (st' := [.int r10, .int (q_a M6 1000 30 x4.toNatClampNeg)]) (r := some (.int r10)) (M1 := M11) K (kX12_degree l K.2.2.2.2.2.2.1 hy hc9) (jg_V jl_X12_322 jw_i_X12_degree jw_s_X12_degree jw_n_X12 jw_c_X12_degree) rfl rfl rfl jd_X12_degree ⟨Nat.le_of_ble_eq_true rfl, Nat.le_of_ble_eq_true rfl⟩ rfl rfl (Nat.le_of_ble_eq_true rfl) (by decide) (okc_1 hy) rfl dX12_does_100 rfl ?_
        refine v_iadd (pc := 103) K dX12_does_103 ?_
        refine v_istore (pc := 104) (lv' := [(5, .int ((q_a M6 1000 30 x4.toNatClampNeg) + r10)), (0, .ref (ly_o y 1000)), (1, .int x1), (2, .int x2), (3, .int x3), (4, .int x4)]) K 5 dX12_does_104 (by decide) rfl ?_
        refine v_aload_n (pc := 106) K dX12_does_106 1 rfl ?_
        refine gX12_owed (pc := 107) K hy (by decide) jn_X12 (List.mem_cons_of_mem _ jl_X12_59) dX12_does_107 ?_
        refine v_iload (pc := 110) K dX12_does_110 5 rfl ?_
        refine v_iload (pc := 112) K dX12_does_112 0 rfl ?_
        refine v_bipush (pc := 114) (v := 15) K dX12_does_114 rfl ?_
        refine v_icmp_le (pc := 116) (tgt := 124) K dX12_does_116 (by decide) hF (fun c12 hF => ?_) (fun c12 hF => ?_)
        · refine v_iload (pc := 124) K dX12_does_124 0 rfl ?_
          refine v_sub [1, 5] rfl ?_
          exact bX12_does_126 l K hy hQ hF
        · refine v_bipush (pc := 119) (v := 15) K dX12_does_119 rfl ?_
          refine v_goto (pc := 121) (tgt := 126) K dX12_does_121 (by decide) ?_
          refine v_sub [1, 5] rfl ?_
          exact bX12_does_126 l K hy hQ hF
  · refine v_aload_n (pc := 44) K dX12_does_44 0 rfl ?_
    refine v_iconst (pc := 45) (v := 3) K dX12_does_45 rfl ?_
    refine pX12_ended (pc := 46) K hy (by decide) jn_X12 (List.mem_cons_of_mem _ jl_X12_347) dX12_does_46 ?_
    refine v_nmM hF (fun M15 hF => ?_)
    refine v_aload_n (pc := 49) K dX12_does_49 0 rfl ?_
    refine v_aload_n (pc := 50) K dX12_does_50 0 rfl ?_
    refine v_aload_n (pc := 51) K dX12_does_51 0 rfl ?_
    refine gX12_keep (pc := 52) K hy (by decide) jn_X12 (List.mem_cons_of_mem _ jl_X12_56) dX12_does_52 ?_
    refine v_iload (pc := 55) K dX12_does_55 4 rfl ?_
    refine iX12_keep (pc := 57) K hy (by decide) hF dX12_does_57 (fun hi16 hF => ?_)
    obtain ⟨r18, M19, hc17, hF⟩ := q_bE hF
    refine v_callV (pc := 58) (ci := 11) (As := [.int (q_a M15 1000 27 x4.toNatClampNeg)]) (rest := [.ref (ly_o y 1000)]) (st' := [.int r18, .ref (ly_o y 1000)]) (r := some (.int r18)) (M1 := M19) K (kX12_mayRefuse l K.2.2.2.2.2.2.1 hy hc17) (jg_V jl_X12_329 jw_i_X12_mayRefuse jw_s_X12_mayRefuse jw_n_X12 jw_c_X12_mayRefuse) rfl rfl rfl jd_X12_mayRefuse ⟨Nat.le_of_ble_eq_true rfl, Nat.le_of_ble_eq_true rfl⟩ rfl rfl (Nat.le_of_ble_eq_true rfl) (by decide) (okc_1 hy) rfl dX12_does_58 rfl ?_
    refine v_if_eq (pc := 61) (tgt := 68) K dX12_does_61 (by decide) hF (fun c20 hF => ?_) (fun c20 hF => ?_)
    · refine v_iconst (pc := 68) (v := 1) K dX12_does_68 rfl ?_
      refine v_iload_n (pc := 69) K dX12_does_69 3 rfl ?_
      refine v_ishl (pc := 70) K dX12_does_70 ?_
      refine v_sub [] rfl ?_
      exact bX12_does_71 l K hy hQ hF
    · refine v_iconst (pc := 64) (v := 0) K dX12_does_64 rfl ?_
      refine v_goto (pc := 65) (tgt := 71) K dX12_does_65 (by decide) ?_
      refine v_sub [] rfl ?_
      exact bX12_does_71 l K hy hQ hF
def fX12_does (M : QM) (x1 : Int32) (x2 : Int32) : Option QM := if x1 ≠ (8 : Int32) then (fX12_does_b34 M x1 x2 (q_i M 1000 31) ((1 : Int32) - (q_i M 1000 31))) else if (q_i M 1000 32) ≠ ((1 : Int32) - (q_i M 1000 31)) then (fX12_does_b34 M x1 x2 (q_i M 1000 31) ((1 : Int32) - (q_i M 1000 31))) else (q_t (p_i M 1000 34 (2 : Int32)) fun M1 => some M1)
set_option maxRecDepth 100000 in
set_option maxHeartbeats 4000000 in
theorem bX12_does_0 {x : Cx} {y : Ly} (l : Launch) (K : VK x l rmX12_does y 6 cX12_does RX12 wqX12_does) (hy : y.2.2.2.2 = 1) {z : QM} (hQ : VQ x y none z none) {M : QM} {x1 : Int32} {x2 : Int32} (hF : fX12_does M x1 x2 = some z) : V x y 6 M 0 [(0, .ref (ly_o y 1000)), (1, .int x1), (2, .int x2)] [] := by
  unfold fX12_does at hF
  refine v_aload_n (pc := 0) K dX12_does_0 0 rfl ?_
  refine gX12_turn (pc := 1) K hy (by decide) jn_X12 (List.mem_cons_of_mem _ jl_X12_338) dX12_does_1 ?_
  refine v_istore_n (pc := 4) (lv' := [(3, .int (q_i M 1000 31)), (0, .ref (ly_o y 1000)), (1, .int x1), (2, .int x2)]) K dX12_does_4 3 rfl (by decide) rfl ?_
  refine v_iconst (pc := 5) (v := 1) K dX12_does_5 rfl ?_
  refine v_aload_n (pc := 6) K dX12_does_6 1 rfl ?_
  refine gX12_turn (pc := 7) K hy (by decide) jn_X12 (List.mem_cons_of_mem _ jl_X12_338) dX12_does_7 ?_
  refine v_isub (pc := 10) K dX12_does_10 ?_
  refine v_istore (pc := 11) (lv' := [(4, .int ((1 : Int32) - (q_i M 1000 31))), (3, .int (q_i M 1000 31)), (0, .ref (ly_o y 1000)), (1, .int x1), (2, .int x2)]) K 4 dX12_does_11 (by decide) rfl ?_
  refine v_iload_n (pc := 13) K dX12_does_13 3 rfl ?_
  refine v_bipush (pc := 14) (v := 8) K dX12_does_14 rfl ?_
  refine v_icmp_ne (pc := 16) (tgt := 34) K dX12_does_16 (by decide) hF (fun c3 hF => ?_) (fun c3 hF => ?_)
  · refine v_sub [2, 3, 4, 1, 0] rfl ?_
    exact bX12_does_34 l K hy hQ hF
  · refine v_aload_n (pc := 19) K dX12_does_19 2 rfl ?_
    refine gX12_asked (pc := 20) K hy (by decide) jn_X12 (List.mem_cons_of_mem _ jl_X12_344) dX12_does_20 ?_
    refine v_iload (pc := 23) K dX12_does_23 0 rfl ?_
    refine v_icmp_ne (pc := 25) (tgt := 34) K dX12_does_25 (by decide) hF (fun c2 hF => ?_) (fun c2 hF => ?_)
    · refine v_sub [2, 3, 4, 1, 0] rfl ?_
      exact bX12_does_34 l K hy hQ hF
    · refine v_aload_n (pc := 28) K dX12_does_28 2 rfl ?_
      refine v_iconst (pc := 29) (v := 2) K dX12_does_29 rfl ?_
      refine pX12_ended (pc := 30) K hy (by decide) jn_X12 (List.mem_cons_of_mem _ jl_X12_347) dX12_does_30 ?_
      refine v_nmM hF (fun M1 hF => ?_)
      have hz := (Option.some.inj hF).symm
      subst hz
      exact v_vret (pc := 33) K hQ dX12_does_33
set_option maxRecDepth 100000 in
set_option maxHeartbeats 4000000 in
theorem kX12_does (l : Launch) {y : Ly} (hJ : ly_J y) (hy : y.2.2.2.2 = 1) {M M1 : QM} {x1 : Int32} {x2 : Int32} (hF : fX12_does M x1 x2 = some M1) : Met l yX12_does wqX12_does rmX12_does (q_P y [.ref (ly_o y 1000), .int x1, .int x2] M) (q_E y none M1) 0 0 (ly_A y) :=
  q_met (by decide) rfl hJ rfl rfl rfl (fun x K hQ => bX12_does_0 l K hy (z := M1) hQ  hF)
-- ===== X12_outcome ()I
theorem jd_X12_outcome : yX12_outcome.cls = RX12 ∧ yX12_outcome.cls ≠ "java/lang/invoke/MethodHandle" ∧ yX12_outcome.cls ≠ "java/lang/invoke/VarHandle" ∧ (parseMethodDescriptor yX12_outcome.desc).map (fun d => d.parameters.length) = some 0 := by decide +kernel
abbrev wqX12_outcome : List Cond := .code yX12_outcome cX12_outcome 1 (some .int) :: wsL_law
abbrev rmX12_outcome : Room := { frames := 0, cells := 0, slots := 0, locals := 0 }
def fX12_outcome (M : QM) : Option (Int32 × QM) := some (((4 : Int32) * (q_i M 1000 34)) + (q_i M 1000 35), M)
set_option maxRecDepth 100000 in
set_option maxHeartbeats 4000000 in
theorem bX12_outcome_0 {x : Cx} {y : Ly} (l : Launch) (K : VK x l rmX12_outcome y 1 cX12_outcome RX12 wqX12_outcome) (hy : y.2.2.2.2 = 1) {z : Int32 × QM} (hQ : VQ x y (some (.int z.1)) z.2 (some .int)) {M : QM} (hF : fX12_outcome M  = some z) : V x y 1 M 0 [(0, .ref (ly_o y 1000))] [] := by
  unfold fX12_outcome at hF
  refine v_iconst (pc := 0) (v := 4) K dX12_outcome_0 rfl ?_
  refine v_aload_n (pc := 1) K dX12_outcome_1 0 rfl ?_
  refine gX12_ended (pc := 2) K hy (by decide) jn_X12 (List.mem_cons_of_mem _ jl_X12_347) dX12_outcome_2 ?_
  refine v_imul (pc := 5) K dX12_outcome_5 ?_
  refine v_aload_n (pc := 6) K dX12_outcome_6 0 rfl ?_
  refine gX12_less (pc := 7) K hy (by decide) jn_X12 (List.mem_cons_of_mem _ jl_X12_350) dX12_outcome_7 ?_
  refine v_iadd (pc := 10) K dX12_outcome_10 ?_
  have hz := (Option.some.inj hF).symm
  subst hz
  exact v_iret (pc := 11) K hQ dX12_outcome_11
set_option maxRecDepth 100000 in
set_option maxHeartbeats 4000000 in
theorem kX12_outcome (l : Launch) {y : Ly} (hJ : ly_J y) (hy : y.2.2.2.2 = 1) {M M1 : QM} {r : Int32} (hF : fX12_outcome M  = some (r, M1)) : Met l yX12_outcome wqX12_outcome rmX12_outcome (q_P y [.ref (ly_o y 1000)] M) (q_E y (some (.int r)) M1) 0 0 (ly_A y) :=
  q_met (by decide) rfl hJ rfl rfl rfl (fun x K hQ => bX12_outcome_0 l K hy (z := (r, M1)) hQ  hF)
-- ===== X12_place ()I
theorem jd_X12_place : yX12_place.cls = RX12 ∧ yX12_place.cls ≠ "java/lang/invoke/MethodHandle" ∧ yX12_place.cls ≠ "java/lang/invoke/VarHandle" ∧ (parseMethodDescriptor yX12_place.desc).map (fun d => d.parameters.length) = some 0 := by decide +kernel
abbrev wqX12_place : List Cond := .code yX12_place cX12_place 1 (some .int) :: wsL_law
abbrev rmX12_place : Room := { frames := 0, cells := 0, slots := 0, locals := 0 }
def fX12_place (M : QM) : Option (Int32 × QM) := (q_t (((((q_i M 1000 33) * (2 : Int32)) + (q_i M 1000 31)) * (3 : Int32)) + (q_i M 1000 32)) fun v1 => (if q_in (0 : Int32) 2 then (q_t (((v1 + (1 : Int32)) * (256 : Int32)) + ((16 : Int32) * (q_a M 1000 30 (0 : Int32).toNatClampNeg))) fun v3 => (if q_in (1 : Int32) 2 then some (v3 + (q_a M 1000 30 (1 : Int32).toNatClampNeg), M) else none)) else none))
set_option maxRecDepth 100000 in
set_option maxHeartbeats 4000000 in
theorem bX12_place_0 {x : Cx} {y : Ly} (l : Launch) (K : VK x l rmX12_place y 1 cX12_place RX12 wqX12_place) (hy : y.2.2.2.2 = 1) {z : Int32 × QM} (hQ : VQ x y (some (.int z.1)) z.2 (some .int)) {M : QM} (hF : fX12_place M  = some z) : V x y 1 M 0 [(0, .ref (ly_o y 1000))] [] := by
  unfold fX12_place at hF
  refine v_aload_n (pc := 0) K dX12_place_0 0 rfl ?_
  refine gX12_left (pc := 1) K hy (by decide) jn_X12 (List.mem_cons_of_mem _ jl_X12_341) dX12_place_1 ?_
  refine v_iconst (pc := 4) (v := 2) K dX12_place_4 rfl ?_
  refine v_imul (pc := 5) K dX12_place_5 ?_
  refine v_aload_n (pc := 6) K dX12_place_6 0 rfl ?_
  refine gX12_turn (pc := 7) K hy (by decide) jn_X12 (List.mem_cons_of_mem _ jl_X12_338) dX12_place_7 ?_
  refine v_iadd (pc := 10) K dX12_place_10 ?_
  refine v_iconst (pc := 11) (v := 3) K dX12_place_11 rfl ?_
  refine v_imul (pc := 12) K dX12_place_12 ?_
  refine v_aload_n (pc := 13) K dX12_place_13 0 rfl ?_
  refine gX12_asked (pc := 14) K hy (by decide) jn_X12 (List.mem_cons_of_mem _ jl_X12_344) dX12_place_14 ?_
  refine v_iadd (pc := 17) K dX12_place_17 ?_
  refine v_nmI hF (fun v1 hF => ?_)
  refine v_iconst (pc := 18) (v := 1) K dX12_place_18 rfl ?_
  refine v_iadd (pc := 19) K dX12_place_19 ?_
  refine v_sipush (pc := 20) (v := 256) K dX12_place_20 rfl ?_
  refine v_imul (pc := 23) K dX12_place_23 ?_
  refine v_bipush (pc := 24) (v := 16) K dX12_place_24 rfl ?_
  refine v_aload_n (pc := 26) K dX12_place_26 0 rfl ?_
  refine gX12_owed (pc := 27) K hy (by decide) jn_X12 (List.mem_cons_of_mem _ jl_X12_59) dX12_place_27 ?_
  refine v_iconst (pc := 30) (v := 0) K dX12_place_30 rfl ?_
  refine iX12_owed (pc := 31) K hy (by decide) hF dX12_place_31 (fun hi2 hF => ?_)
  refine v_imul (pc := 32) K dX12_place_32 ?_
  refine v_iadd (pc := 33) K dX12_place_33 ?_
  refine v_nmI hF (fun v3 hF => ?_)
  refine v_aload_n (pc := 34) K dX12_place_34 0 rfl ?_
  refine gX12_owed (pc := 35) K hy (by decide) jn_X12 (List.mem_cons_of_mem _ jl_X12_59) dX12_place_35 ?_
  refine v_iconst (pc := 38) (v := 1) K dX12_place_38 rfl ?_
  refine iX12_owed (pc := 39) K hy (by decide) hF dX12_place_39 (fun hi4 hF => ?_)
  refine v_iadd (pc := 40) K dX12_place_40 ?_
  have hz := (Option.some.inj hF).symm
  subst hz
  exact v_iret (pc := 41) K hQ dX12_place_41
set_option maxRecDepth 100000 in
set_option maxHeartbeats 4000000 in
theorem kX12_place (l : Launch) {y : Ly} (hJ : ly_J y) (hy : y.2.2.2.2 = 1) {M M1 : QM} {r : Int32} (hF : fX12_place M  = some (r, M1)) : Met l yX12_place wqX12_place rmX12_place (q_P y [.ref (ly_o y 1000)] M) (q_E y (some (.int r)) M1) 0 0 (ly_A y) :=
  q_met (by decide) rfl hJ rfl rfl rfl (fun x K hQ => bX12_place_0 l K hy (z := (r, M1)) hQ  hF)
-- ===== X12_goTo (I)V
theorem jd_X12_goTo : yX12_goTo.cls = RX12 ∧ yX12_goTo.cls ≠ "java/lang/invoke/MethodHandle" ∧ yX12_goTo.cls ≠ "java/lang/invoke/VarHandle" ∧ (parseMethodDescriptor yX12_goTo.desc).map (fun d => d.parameters.length) = some 1 := by decide +kernel
abbrev wqX12_goTo : List Cond := .code yX12_goTo cX12_goTo 3 none :: wsL_law
abbrev rmX12_goTo : Room := { frames := 0, cells := 0, slots := 0, locals := 0 }
def fX12_goTo (M : QM) (x1 : Int32) : Option QM := (if q_in (1 : Int32) 2 then (q_t (p_a M 1000 30 (1 : Int32).toNatClampNeg (x1 &&& (15 : Int32))) fun M2 => (if q_in (0 : Int32) 2 then (q_t (p_a M2 1000 30 (0 : Int32).toNatClampNeg ((x1 >>> ((4 : Int32) &&& (31 : Int32))) &&& (15 : Int32))) fun M4 => (q_t ((x1 / (256 : Int32)) - (x1 / (256 : Int32)) / (3 : Int32) * (3 : Int32)) fun v5 => (q_t (p_i M4 1000 32 (v5 - (1 : Int32))) fun M6 => (q_t (((x1 / (256 : Int32)) / (3 : Int32)) - ((x1 / (256 : Int32)) / (3 : Int32)) / (2 : Int32) * (2 : Int32)) fun v7 => (q_t (p_i M6 1000 31 v7) fun M8 => (q_t (p_i M8 1000 33 ((x1 / (256 : Int32)) / (6 : Int32))) fun M9 => (q_t (p_i M9 1000 34 (0 : Int32)) fun M10 => (q_t (p_i M10 1000 35 (0 : Int32)) fun M11 => some M11)))))))) else none)) else none)
set_option maxRecDepth 100000 in
set_option maxHeartbeats 4000000 in
theorem bX12_goTo_0 {x : Cx} {y : Ly} (l : Launch) (K : VK x l rmX12_goTo y 3 cX12_goTo RX12 wqX12_goTo) (hy : y.2.2.2.2 = 1) {z : QM} (hQ : VQ x y none z none) {M : QM} {x1 : Int32} (hF : fX12_goTo M x1 = some z) : V x y 3 M 0 [(0, .ref (ly_o y 1000)), (1, .int x1)] [] := by
  unfold fX12_goTo at hF
  refine v_aload_n (pc := 0) K dX12_goTo_0 0 rfl ?_
  refine gX12_owed (pc := 1) K hy (by decide) jn_X12 (List.mem_cons_of_mem _ jl_X12_59) dX12_goTo_1 ?_
  refine v_iconst (pc := 4) (v := 1) K dX12_goTo_4 rfl ?_
  refine v_iload_n (pc := 5) K dX12_goTo_5 1 rfl ?_
  refine v_bipush (pc := 6) (v := 15) K dX12_goTo_6 rfl ?_
  refine v_iand (pc := 8) K dX12_goTo_8 ?_
  refine uX12_owed (pc := 9) K hy (by decide) hF dX12_goTo_9 (fun hi1 hF => ?_)
  refine v_nmM hF (fun M2 hF => ?_)
  refine v_aload_n (pc := 10) K dX12_goTo_10 0 rfl ?_
  refine gX12_owed (pc := 11) K hy (by decide) jn_X12 (List.mem_cons_of_mem _ jl_X12_59) dX12_goTo_11 ?_
  refine v_iconst (pc := 14) (v := 0) K dX12_goTo_14 rfl ?_
  refine v_iload_n (pc := 15) K dX12_goTo_15 1 rfl ?_
  refine v_iconst (pc := 16) (v := 4) K dX12_goTo_16 rfl ?_
  refine v_ishr (pc := 17) K dX12_goTo_17 ?_
  refine v_bipush (pc := 18) (v := 15) K dX12_goTo_18 rfl ?_
  refine v_iand (pc := 20) K dX12_goTo_20 ?_
  refine uX12_owed (pc := 21) K hy (by decide) hF dX12_goTo_21 (fun hi3 hF => ?_)
  refine v_nmM hF (fun M4 hF => ?_)
  refine v_iload_n (pc := 22) K dX12_goTo_22 1 rfl ?_
  refine v_sipush (pc := 23) (v := 256) K dX12_goTo_23 rfl ?_
  refine v_idiv (pc := 26) K dX12_goTo_26 (by decide) ?_
  refine v_istore_n (pc := 27) (lv' := [(2, .int (x1 / (256 : Int32))), (0, .ref (ly_o y 1000)), (1, .int x1)]) K dX12_goTo_27 2 rfl (by decide) rfl ?_
  refine v_aload_n (pc := 28) K dX12_goTo_28 1 rfl ?_
  refine v_iload_n (pc := 29) K dX12_goTo_29 0 rfl ?_
  refine v_iconst (pc := 30) (v := 3) K dX12_goTo_30 rfl ?_
  refine v_irem (pc := 31) K dX12_goTo_31 (by decide) ?_
  refine v_nmI hF (fun v5 hF => ?_)
  refine v_iconst (pc := 32) (v := 1) K dX12_goTo_32 rfl ?_
  refine v_isub (pc := 33) K dX12_goTo_33 ?_
  refine pX12_asked (pc := 34) K hy (by decide) jn_X12 (List.mem_cons_of_mem _ jl_X12_344) dX12_goTo_34 ?_
  refine v_nmM hF (fun M6 hF => ?_)
  refine v_aload_n (pc := 37) K dX12_goTo_37 1 rfl ?_
  refine v_iload_n (pc := 38) K dX12_goTo_38 0 rfl ?_
  refine v_iconst (pc := 39) (v := 3) K dX12_goTo_39 rfl ?_
  refine v_idiv (pc := 40) K dX12_goTo_40 (by decide) ?_
  refine v_iconst (pc := 41) (v := 2) K dX12_goTo_41 rfl ?_
  refine v_irem (pc := 42) K dX12_goTo_42 (by decide) ?_
  refine v_nmI hF (fun v7 hF => ?_)
  refine pX12_turn (pc := 43) K hy (by decide) jn_X12 (List.mem_cons_of_mem _ jl_X12_338) dX12_goTo_43 ?_
  refine v_nmM hF (fun M8 hF => ?_)
  refine v_aload_n (pc := 46) K dX12_goTo_46 1 rfl ?_
  refine v_iload_n (pc := 47) K dX12_goTo_47 0 rfl ?_
  refine v_bipush (pc := 48) (v := 6) K dX12_goTo_48 rfl ?_
  refine v_idiv (pc := 50) K dX12_goTo_50 (by decide) ?_
  refine pX12_left (pc := 51) K hy (by decide) jn_X12 (List.mem_cons_of_mem _ jl_X12_341) dX12_goTo_51 ?_
  refine v_nmM hF (fun M9 hF => ?_)
  refine v_aload_n (pc := 54) K dX12_goTo_54 1 rfl ?_
  refine v_iconst (pc := 55) (v := 0) K dX12_goTo_55 rfl ?_
  refine pX12_ended (pc := 56) K hy (by decide) jn_X12 (List.mem_cons_of_mem _ jl_X12_347) dX12_goTo_56 ?_
  refine v_nmM hF (fun M10 hF => ?_)
  refine v_aload_n (pc := 59) K dX12_goTo_59 1 rfl ?_
  refine v_iconst (pc := 60) (v := 0) K dX12_goTo_60 rfl ?_
  refine pX12_less (pc := 61) K hy (by decide) jn_X12 (List.mem_cons_of_mem _ jl_X12_350) dX12_goTo_61 ?_
  refine v_nmM hF (fun M11 hF => ?_)
  have hz := (Option.some.inj hF).symm
  subst hz
  exact v_vret (pc := 64) K hQ dX12_goTo_64
set_option maxRecDepth 100000 in
set_option maxHeartbeats 4000000 in
theorem kX12_goTo (l : Launch) {y : Ly} (hJ : ly_J y) (hy : y.2.2.2.2 = 1) {M M1 : QM} {x1 : Int32} (hF : fX12_goTo M x1 = some M1) : Met l yX12_goTo wqX12_goTo rmX12_goTo (q_P y [.ref (ly_o y 1000), .int x1] M) (q_E y none M1) 0 0 (ly_A y) :=
  q_met (by decide) rfl hJ rfl rfl rfl (fun x K hQ => bX12_goTo_0 l K hy (z := M1) hQ  hF)
-- ===== X12_forgets ()V
theorem jd_X12_forgets : yX12_forgets.cls = RX12 ∧ yX12_forgets.cls ≠ "java/lang/invoke/MethodHandle" ∧ yX12_forgets.cls ≠ "java/lang/invoke/VarHandle" ∧ (parseMethodDescriptor yX12_forgets.desc).map (fun d => d.parameters.length) = some 0 := by decide +kernel
abbrev wqX12_forgets : List Cond := .code yX12_forgets cX12_forgets 2 none :: wsL_law
abbrev rmX12_forgets : Room := { frames := 0, cells := 0, slots := 0, locals := 0 }
def fX12_forgets_b2 : Nat → QM → Int32 → Option QM
  | 0, _, _ => none
  | q + 1, M, x1 => if (13824 : Int32) ≤ x1 then some M else (if q_in x1 13824 then (q_t (p_a M 1000 36 x1.toNatClampNeg (vp_nar .boolean (0 : Int32))) fun M2 => (fX12_forgets_b2 q M2 (x1 + (1 : Int32)))) else none)
set_option maxRecDepth 100000 in
set_option maxHeartbeats 4000000 in
theorem bX12_forgets_2 {x : Cx} {y : Ly} (l : Launch) (K : VK x l rmX12_forgets y 2 cX12_forgets RX12 wqX12_forgets) (hy : y.2.2.2.2 = 1) {z : QM} (hQ : VQ x y none z none) : ∀ (q : Nat) {M : QM} {x1 : Int32},  fX12_forgets_b2 q M x1 = some z → V x y 2 M 2 [(0, .ref (ly_o y 1000)), (1, .int x1)] [] := by
  intro q
  induction q with
  | zero =>
    intro M x1  hF
    rw [fX12_forgets_b2] at hF
    cases hF
  | succ q ih =>
    intro M x1  hF
    rw [fX12_forgets_b2] at hF
    refine v_iload_n (pc := 2) K dX12_forgets_2 1 rfl ?_
    refine v_sipush (pc := 3) (v := 13824) K dX12_forgets_3 rfl ?_
    refine v_icmp_ge (pc := 6) (tgt := 22) K dX12_forgets_6 (by decide) hF (fun c3 hF => ?_) (fun c3 hF => ?_)
    · have hz := (Option.some.inj hF).symm
      subst hz
      exact v_vret (pc := 22) K hQ dX12_forgets_22
    · refine v_aload_n (pc := 9) K dX12_forgets_9 0 rfl ?_
      refine gX12_comes (pc := 10) K hy (by decide) jn_X12 (List.mem_cons_of_mem _ jl_X12_62) dX12_forgets_10 ?_
      refine v_iload_n (pc := 13) K dX12_forgets_13 1 rfl ?_
      refine v_iconst (pc := 14) (v := 0) K dX12_forgets_14 rfl ?_
      refine uX12_comes (pc := 15) K hy (by decide) hF dX12_forgets_15 (fun hi1 hF => ?_)
      refine v_nmM hF (fun M2 hF => ?_)
      refine v_iinc (pc := 16) (v1 := x1 + (1 : Int32)) (lv' := [(1, .int (x1 + (1 : Int32))), (0, .ref (ly_o y 1000))]) K dX12_forgets_16 1 rfl rfl (by decide) rfl ?_
      refine v_goto (pc := 19) (tgt := 2) K dX12_forgets_19 (by decide) ?_
      refine v_sub [1, 0] rfl ?_
      exact ih hF
def fX12_forgets (M : QM) : Option QM := (fX12_forgets_b2 q_F M (0 : Int32))
set_option maxRecDepth 100000 in
set_option maxHeartbeats 4000000 in
theorem bX12_forgets_0 {x : Cx} {y : Ly} (l : Launch) (K : VK x l rmX12_forgets y 2 cX12_forgets RX12 wqX12_forgets) (hy : y.2.2.2.2 = 1) {z : QM} (hQ : VQ x y none z none) {M : QM} (hF : fX12_forgets M  = some z) : V x y 2 M 0 [(0, .ref (ly_o y 1000))] [] := by
  unfold fX12_forgets at hF
  refine v_iconst (pc := 0) (v := 0) K dX12_forgets_0 rfl ?_
  refine v_istore_n (pc := 1) (lv' := [(1, .int (0 : Int32)), (0, .ref (ly_o y 1000))]) K dX12_forgets_1 1 rfl (by decide) rfl ?_
  refine v_sub [1, 0] rfl ?_
  exact bX12_forgets_2 l K hy hQ q_F hF
set_option maxRecDepth 100000 in
set_option maxHeartbeats 4000000 in
theorem kX12_forgets (l : Launch) {y : Ly} (hJ : ly_J y) (hy : y.2.2.2.2 = 1) {M M1 : QM} (hF : fX12_forgets M  = some M1) : Met l yX12_forgets wqX12_forgets rmX12_forgets (q_P y [.ref (ly_o y 1000)] M) (q_E y none M1) 0 0 (ly_A y) :=
  q_met (by decide) rfl hJ rfl rfl rfl (fun x K hQ => bX12_forgets_0 l K hy (z := M1) hQ  hF)
-- ===== X12_worth (II)I
theorem jd_X12_worth : yX12_worth.cls ≠ "java/lang/invoke/MethodHandle" ∧ yX12_worth.cls ≠ "java/lang/invoke/VarHandle" ∧ (parseMethodDescriptor yX12_worth.desc).map (fun d => d.parameters.length) = some 2 := by decide +kernel
abbrev wqX12_worth : List Cond := .code yX12_worth cX12_worth 4 (some .int) :: wsL_law
abbrev rmX12_worth : Room := { frames := 0, cells := 0, slots := 0, locals := 0 }
def fX12_worth_b29 (M : QM) (x3 : Int32) (s0 : Int32) (s1 : Int32) : Option (Int32 × QM) := some ((s1 + s0) + x3, M)
set_option maxRecDepth 100000 in
set_option maxHeartbeats 4000000 in
theorem bX12_worth_29 {x : Cx} {y : Ly} (l : Launch) (K : VK x l rmX12_worth y 4 cX12_worth RX12 wqX12_worth) (hy : y.2.2.2.2 = 1) {z : Int32 × QM} (hQ : VQ x y (some (.int z.1)) z.2 (some .int)) {M : QM} {x3 : Int32} {s0 : Int32} {s1 : Int32} (hF : fX12_worth_b29 M x3 s0 s1 = some z) : V x y 4 M 29 [(3, .int x3)] [.int s0, .int s1] := by
  unfold fX12_worth_b29 at hF
  refine v_iadd (pc := 29) K dX12_worth_29 ?_
  refine v_iload_n (pc := 30) K dX12_worth_30 0 rfl ?_
  refine v_iadd (pc := 31) K dX12_worth_31 ?_
  have hz := (Option.some.inj hF).symm
  subst hz
  exact v_iret (pc := 32) K hQ dX12_worth_32
def fX12_worth (M : QM) (x0 : Int32) (x1 : Int32) : Option (Int32 × QM) := if (x0 / (4 : Int32)) ≠ (2 : Int32) then (fX12_worth_b29 M ((x0 >>> (((1 : Int32) - x1) &&& (31 : Int32))) &&& (1 : Int32)) (0 : Int32) ((4 : Int32) * ((x0 >>> (x1 &&& (31 : Int32))) &&& (1 : Int32)))) else (fX12_worth_b29 M ((x0 >>> (((1 : Int32) - x1) &&& (31 : Int32))) &&& (1 : Int32)) (2 : Int32) ((4 : Int32) * ((x0 >>> (x1 &&& (31 : Int32))) &&& (1 : Int32))))
set_option maxRecDepth 100000 in
set_option maxHeartbeats 4000000 in
theorem bX12_worth_0 {x : Cx} {y : Ly} (l : Launch) (K : VK x l rmX12_worth y 4 cX12_worth RX12 wqX12_worth) (hy : y.2.2.2.2 = 1) {z : Int32 × QM} (hQ : VQ x y (some (.int z.1)) z.2 (some .int)) {M : QM} {x0 : Int32} {x1 : Int32} (hF : fX12_worth M x0 x1 = some z) : V x y 4 M 0 [(0, .int x0), (1, .int x1)] [] := by
  unfold fX12_worth at hF
  refine v_iload_n (pc := 0) K dX12_worth_0 0 rfl ?_
  refine v_iload_n (pc := 1) K dX12_worth_1 1 rfl ?_
  refine v_ishr (pc := 2) K dX12_worth_2 ?_
  refine v_iconst (pc := 3) (v := 1) K dX12_worth_3 rfl ?_
  refine v_iand (pc := 4) K dX12_worth_4 ?_
  refine v_istore_n (pc := 5) (lv' := [(2, .int ((x0 >>> (x1 &&& (31 : Int32))) &&& (1 : Int32))), (0, .int x0), (1, .int x1)]) K dX12_worth_5 2 rfl (by decide) rfl ?_
  refine v_iload_n (pc := 6) K dX12_worth_6 1 rfl ?_
  refine v_iconst (pc := 7) (v := 1) K dX12_worth_7 rfl ?_
  refine v_iload_n (pc := 8) K dX12_worth_8 2 rfl ?_
  refine v_isub (pc := 9) K dX12_worth_9 ?_
  refine v_ishr (pc := 10) K dX12_worth_10 ?_
  refine v_iconst (pc := 11) (v := 1) K dX12_worth_11 rfl ?_
  refine v_iand (pc := 12) K dX12_worth_12 ?_
  refine v_istore_n (pc := 13) (lv' := [(3, .int ((x0 >>> (((1 : Int32) - x1) &&& (31 : Int32))) &&& (1 : Int32))), (2, .int ((x0 >>> (x1 &&& (31 : Int32))) &&& (1 : Int32))), (0, .int x0), (1, .int x1)]) K dX12_worth_13 3 rfl (by decide) rfl ?_
  refine v_iconst (pc := 14) (v := 4) K dX12_worth_14 rfl ?_
  refine v_iload_n (pc := 15) K dX12_worth_15 1 rfl ?_
  refine v_imul (pc := 16) K dX12_worth_16 ?_
  refine v_iload_n (pc := 17) K dX12_worth_17 2 rfl ?_
  refine v_iconst (pc := 18) (v := 4) K dX12_worth_18 rfl ?_
  refine v_idiv (pc := 19) K dX12_worth_19 (by decide) ?_
  refine v_iconst (pc := 20) (v := 2) K dX12_worth_20 rfl ?_
  refine v_icmp_ne (pc := 21) (tgt := 28) K dX12_worth_21 (by decide) hF (fun c1 hF => ?_) (fun c1 hF => ?_)
  · refine v_iconst (pc := 28) (v := 0) K dX12_worth_28 rfl ?_
    refine v_sub [0] rfl ?_
    exact bX12_worth_29 l K hy hQ hF
  · refine v_iconst (pc := 24) (v := 2) K dX12_worth_24 rfl ?_
    refine v_goto (pc := 25) (tgt := 29) K dX12_worth_25 (by decide) ?_
    refine v_sub [0] rfl ?_
    exact bX12_worth_29 l K hy hQ hF
set_option maxRecDepth 100000 in
set_option maxHeartbeats 4000000 in
theorem kX12_worth (l : Launch) {y : Ly} (hJ : ly_J y) (hy : y.2.2.2.2 = 1) {M M1 : QM} {r : Int32} {x0 : Int32} {x1 : Int32} (hF : fX12_worth M x0 x1 = some (r, M1)) : Met l yX12_worth wqX12_worth rmX12_worth (q_P y [.int x0, .int x1] M) (q_E y (some (.int r)) M1) 0 0 (ly_A y) :=
  q_met (by decide) rfl hJ rfl rfl rfl (fun x K hQ => bX12_worth_0 l K hy (z := (r, M1)) hQ  hF)
-- ===== X12_spreads ()V
theorem jd_X12_spreads : yX12_spreads.cls = RX12 ∧ yX12_spreads.cls ≠ "java/lang/invoke/MethodHandle" ∧ yX12_spreads.cls ≠ "java/lang/invoke/VarHandle" ∧ (parseMethodDescriptor yX12_spreads.desc).map (fun d => d.parameters.length) = some 0 := by decide +kernel
abbrev wqX12_spreads : List Cond := .code yX12_spreads cX12_spreads 3 none :: wsL_law
abbrev rmX12_spreads : Room := { frames := 5, cells := 0, slots := 0, locals := 126 }
def fX12_spreads_b70 (k25 : QM → Int32 → Int32 → Option QM) (k4 : QM → Int32 → Option QM) (M : QM) (x1 : Int32) (x2 : Int32) : Option QM := (k25 M x1 (x2 + (1 : Int32)))
set_option maxRecDepth 100000 in
set_option maxHeartbeats 4000000 in
theorem bX12_spreads_70 {x : Cx} {y : Ly} (l : Launch) (K : VK x l rmX12_spreads y 3 cX12_spreads RX12 wqX12_spreads) (hy : y.2.2.2.2 = 1) {z : QM} (hQ : VQ x y none z none) {k25 : QM → Int32 → Int32 → Option QM} (hk25 : ∀ {M : QM} {x1 : Int32} {x2 : Int32}, k25 M x1 x2 = some z → V x y 3 M 25 [(0, .ref (ly_o y 1000)), (1, .int x1), (2, .int x2)] []) {k4 : QM → Int32 → Option QM} (hk4 : ∀ {M : QM} {x1 : Int32}, k4 M x1 = some z → V x y 3 M 4 [(0, .ref (ly_o y 1000)), (1, .int x1)] []) {M : QM} {x1 : Int32} {x2 : Int32} (hF : fX12_spreads_b70 k25 k4 M x1 x2 = some z) : V x y 3 M 70 [(0, .ref (ly_o y 1000)), (1, .int x1), (2, .int x2)] [] := by
  unfold fX12_spreads_b70 at hF
  refine v_iinc (pc := 70) (v1 := x2 + (1 : Int32)) (lv' := [(2, .int (x2 + (1 : Int32))), (0, .ref (ly_o y 1000)), (1, .int x1)]) K dX12_spreads_70 2 rfl rfl (by decide) rfl ?_
  refine v_goto (pc := 73) (tgt := 25) K dX12_spreads_73 (by decide) ?_
  refine v_sub [1, 2, 0] rfl ?_
  exact hk25 hF
def fX12_spreads_b76 (k4 : QM → Int32 → Option QM) (M : QM) (x1 : Int32) : Option QM := (k4 M (x1 + (-1 : Int32)))
set_option maxRecDepth 100000 in
set_option maxHeartbeats 4000000 in
theorem bX12_spreads_76 {x : Cx} {y : Ly} (l : Launch) (K : VK x l rmX12_spreads y 3 cX12_spreads RX12 wqX12_spreads) (hy : y.2.2.2.2 = 1) {z : QM} (hQ : VQ x y none z none) {k4 : QM → Int32 → Option QM} (hk4 : ∀ {M : QM} {x1 : Int32}, k4 M x1 = some z → V x y 3 M 4 [(0, .ref (ly_o y 1000)), (1, .int x1)] []) {M : QM} {x1 : Int32} (hF : fX12_spreads_b76 k4 M x1 = some z) : V x y 3 M 76 [(0, .ref (ly_o y 1000)), (1, .int x1)] [] := by
  unfold fX12_spreads_b76 at hF
  refine v_iinc (pc := 76) (v1 := x1 + (-1 : Int32)) (lv' := [(1, .int (x1 + (-1 : Int32))), (0, .ref (ly_o y 1000))]) K dX12_spreads_76 1 rfl rfl (by decide) rfl ?_
  refine v_goto (pc := 79) (tgt := 4) K dX12_spreads_79 (by decide) ?_
  refine v_sub [1, 0] rfl ?_
  exact hk4 hF
def fX12_spreads_b25 (k4 : QM → Int32 → Option QM) : Nat → QM → Int32 → Int32 → Option QM
  | 0, _, _, _ => none
  | q + 1, M, x1, x2 => if (11 : Int32) ≤ x2 then (fX12_spreads_b76 k4 M x1) else (q_bv (fX12_goTo M x1) fun M6 => (q_b (fX12_can M6 x2) fun r8 M9 => if r8 ≠ (0 : Int32) then (q_bv (fX12_does M9 x2 (1 : Int32)) fun M12 => if (q_i M12 1000 34) ≠ (0 : Int32) then (fX12_spreads_b70 (fun M x1 x2 => fX12_spreads_b25 k4 q M x1 x2) k4 M12 x1 x2) else (q_b (fX12_place M12) fun r14 M15 => (if q_in r14 13824 then (q_t (p_a M15 1000 36 r14.toNatClampNeg (vp_nar .boolean (1 : Int32))) fun M17 => (fX12_spreads_b70 (fun M x1 x2 => fX12_spreads_b25 k4 q M x1 x2) k4 M17 x1 x2)) else none))) else (fX12_spreads_b70 (fun M x1 x2 => fX12_spreads_b25 k4 q M x1 x2) k4 M9 x1 x2)))
set_option maxRecDepth 100000 in
set_option maxHeartbeats 4000000 in
theorem bX12_spreads_25 {x : Cx} {y : Ly} (l : Launch) (K : VK x l rmX12_spreads y 3 cX12_spreads RX12 wqX12_spreads) (hy : y.2.2.2.2 = 1) {z : QM} (hQ : VQ x y none z none) {k4 : QM → Int32 → Option QM} (hk4 : ∀ {M : QM} {x1 : Int32}, k4 M x1 = some z → V x y 3 M 4 [(0, .ref (ly_o y 1000)), (1, .int x1)] []) : ∀ (q : Nat) {M : QM} {x1 : Int32} {x2 : Int32},  fX12_spreads_b25 k4 q M x1 x2 = some z → V x y 3 M 25 [(0, .ref (ly_o y 1000)), (1, .int x1), (2, .int x2)] [] := by
  intro q
  induction q with
  | zero =>
    intro M x1 x2  hF
    rw [fX12_spreads_b25] at hF
    cases hF
  | succ q ih =>
    intro M x1 x2  hF
    rw [fX12_spreads_b25] at hF
    refine v_iload_n (pc := 25) K dX12_spreads_25 2 rfl ?_
    refine v_bipush (pc := 26) (v := 11) K dX12_spreads_26 rfl ?_
    refine v_icmp_ge (pc := 28) (tgt := 76) K dX12_spreads_28 (by decide) hF (fun c20 hF => ?_) (fun c20 hF => ?_)
    · refine v_sub [0, 1] rfl ?_
      exact bX12_spreads_76 l K hy hQ hk4 hF
    · refine v_aload_n (pc := 31) K dX12_spreads_31 0 rfl ?_
      refine v_iload_n (pc := 32) K dX12_spreads_32 1 rfl ?_
      obtain ⟨M6, hc4, hF⟩ := q_bvE hF
      refine v_callV (pc := 33) (ci := 11) (As := [.int x1]) (rest := []) (st' := []) (r := none) (M1 := M6) K (kX12_goTo l K.2.2.2.2.2.2.1 hy hc4) (jg_V jl_X12_361 jw_i_X12_goTo jw_s_X12_goTo jw_n_X12 jw_c_X12_goTo) rfl rfl rfl jd_X12_goTo ⟨Nat.le_of_ble_eq_true rfl, Nat.le_of_ble_eq_true rfl⟩ rfl rfl (Nat.le_of_ble_eq_true rfl) (by decide) (okc_1 hy) rfl dX12_spreads_33 rfl ?_
      refine v_aload_n (pc := 36) K dX12_spreads_36 0 rfl ?_
      refine v_iload_n (pc := 37) K dX12_spreads_37 2 rfl ?_
      obtain ⟨r8, M9, hc7, hF⟩ := q_bE hF
      refine v_callV (pc := 38) (ci := 11) (As := [.int x2]) (rest := []) (st' := [.int r8]) (r := some (.int r8)) (M1 := M9) K (kX12_can l K.2.2.2.2.2.2.1 hy hc7) (jg_V jl_X12_364 jw_i_X12_can jw_s_X12_can jw_n_X12 jw_c_X12_can) rfl rfl rfl jd_X12_can ⟨Nat.le_of_ble_eq_true rfl, Nat.le_of_ble_eq_true rfl⟩ rfl rfl (Nat.le_of_ble_eq_true rfl) (by decide) (okc_1 hy) rfl dX12_spreads_38 rfl ?_
      refine v_if_ne (pc := 41) (tgt := 47) K dX12_spreads_41 (by decide) hF (fun c19 hF => ?_) (fun c19 hF => ?_)
      · refine v_aload_n (pc := 47) K dX12_spreads_47 0 rfl ?_
        refine v_iload_n (pc := 48) K dX12_spreads_48 2 rfl ?_
        refine v_iconst (pc := 49) (v := 1) K dX12_spreads_49 rfl ?_
        obtain ⟨M12, hc10, hF⟩ := q_bvE hF
        refine v_callV (pc := 50) (ci := 11) (As := [.int x2, .int (1 : Int32)]) (rest := []) (st' := []) (r := none) (M1 := M12) K (kX12_does l K.2.2.2.2.2.2.1 hy hc10) (jg_V jl_X12_367 jw_i_X12_does jw_s_X12_does jw_n_X12 jw_c_X12_does) rfl rfl rfl jd_X12_does ⟨Nat.le_of_ble_eq_true rfl, Nat.le_of_ble_eq_true rfl⟩ rfl rfl (Nat.le_of_ble_eq_true rfl) (by decide) (okc_1 hy) rfl dX12_spreads_50 rfl ?_
        refine v_aload_n (pc := 53) K dX12_spreads_53 0 rfl ?_
        refine gX12_ended (pc := 54) K hy (by decide) jn_X12 (List.mem_cons_of_mem _ jl_X12_347) dX12_spreads_54 ?_
        refine v_if_ne (pc := 57) (tgt := 70) K dX12_spreads_57 (by decide) hF (fun c18 hF => ?_) (fun c18 hF => ?_)
        · exact bX12_spreads_70 l K hy hQ ih hk4 hF
        · refine v_aload_n (pc := 60) K dX12_spreads_60 0 rfl ?_
          refine gX12_comes (pc := 61) K hy (by decide) jn_X12 (List.mem_cons_of_mem _ jl_X12_62) dX12_spreads_61 ?_
          refine v_aload_n (pc := 64) K dX12_spreads_64 0 rfl ?_
          obtain ⟨r14, M15, hc13, hF⟩ := q_bE hF
          refine v_callV (pc := 65) (ci := 11) (As := []) (rest := [.ref (ly_a y 1000 36)]) (st' := [.int r14, .ref (ly_a y 1000 36)]) (r := some (.int r14)) (M1 := M15) K (kX12_place l K.2.2.2.2.2.2.1 hy hc13) (jg_V jl_X12_371 jw_i_X12_place jw_s_X12_place jw_n_X12 jw_c_X12_place) rfl rfl rfl jd_X12_place ⟨Nat.le_of_ble_eq_true rfl, Nat.le_of_ble_eq_true rfl⟩ rfl rfl (Nat.le_of_ble_eq_true rfl) (by decide) (okc_1 hy) rfl dX12_spreads_65 rfl ?_
          refine v_iconst (pc := 68) (v := 1) K dX12_spreads_68 rfl ?_
          refine uX12_comes (pc := 69) K hy (by decide) hF dX12_spreads_69 (fun hi16 hF => ?_)
          refine v_nmM hF (fun M17 hF => ?_)
          exact bX12_spreads_70 l K hy hQ ih hk4 hF
      · refine v_goto (pc := 44) (tgt := 70) K dX12_spreads_44 (by decide) ?_
        exact bX12_spreads_70 l K hy hQ ih hk4 hF
def fX12_spreads_b4 : Nat → QM → Int32 → Option QM
  | 0, _, _ => none
  | q + 1, M, x1 => if x1 < (1536 : Int32) then some M else (if q_in x1 13824 then if (q_a M 1000 36 x1.toNatClampNeg) ≠ (0 : Int32) then (fX12_spreads_b25 (fun M x1 => fX12_spreads_b4 q M x1) q_F M x1 (0 : Int32)) else (fX12_spreads_b76 (fun M x1 => fX12_spreads_b4 q M x1) M x1) else none)
set_option maxRecDepth 100000 in
set_option maxHeartbeats 4000000 in
theorem bX12_spreads_4 {x : Cx} {y : Ly} (l : Launch) (K : VK x l rmX12_spreads y 3 cX12_spreads RX12 wqX12_spreads) (hy : y.2.2.2.2 = 1) {z : QM} (hQ : VQ x y none z none) : ∀ (q : Nat) {M : QM} {x1 : Int32},  fX12_spreads_b4 q M x1 = some z → V x y 3 M 4 [(0, .ref (ly_o y 1000)), (1, .int x1)] [] := by
  intro q
  induction q with
  | zero =>
    intro M x1  hF
    rw [fX12_spreads_b4] at hF
    cases hF
  | succ q ih =>
    intro M x1  hF
    rw [fX12_spreads_b4] at hF
    refine v_iload_n (pc := 4) K dX12_spreads_4 1 rfl ?_
    refine v_sipush (pc := 5) (v := 1536) K dX12_spreads_5 rfl ?_
    refine v_icmp_lt (pc := 8) (tgt := 82) K dX12_spreads_8 (by decide) hF (fun c3 hF => ?_) (fun c3 hF => ?_)
    · have hz := (Option.some.inj hF).symm
      subst hz
      exact v_vret (pc := 82) K hQ dX12_spreads_82
    · refine v_aload_n (pc := 11) K dX12_spreads_11 0 rfl ?_
      refine gX12_comes (pc := 12) K hy (by decide) jn_X12 (List.mem_cons_of_mem _ jl_X12_62) dX12_spreads_12 ?_
      refine v_iload_n (pc := 15) K dX12_spreads_15 1 rfl ?_
      refine iX12_comes (pc := 16) K hy (by decide) hF dX12_spreads_16 (fun hi1 hF => ?_)
      refine v_if_ne (pc := 17) (tgt := 23) K dX12_spreads_17 (by decide) hF (fun c2 hF => ?_) (fun c2 hF => ?_)
      · refine v_iconst (pc := 23) (v := 0) K dX12_spreads_23 rfl ?_
        refine v_istore_n (pc := 24) (lv' := [(2, .int (0 : Int32)), (0, .ref (ly_o y 1000)), (1, .int x1)]) K dX12_spreads_24 2 rfl (by decide) rfl ?_
        refine v_sub [1, 2, 0] rfl ?_
        exact bX12_spreads_25 l K hy hQ ih q_F hF
      · refine v_goto (pc := 20) (tgt := 76) K dX12_spreads_20 (by decide) ?_
        exact bX12_spreads_76 l K hy hQ ih hF
def fX12_spreads (M : QM) : Option QM := (fX12_spreads_b4 q_F M (13823 : Int32))
set_option maxRecDepth 100000 in
set_option maxHeartbeats 4000000 in
theorem bX12_spreads_0 {x : Cx} {y : Ly} (l : Launch) (K : VK x l rmX12_spreads y 3 cX12_spreads RX12 wqX12_spreads) (hy : y.2.2.2.2 = 1) {z : QM} (hQ : VQ x y none z none) {M : QM} (hF : fX12_spreads M  = some z) : V x y 3 M 0 [(0, .ref (ly_o y 1000))] [] := by
  unfold fX12_spreads at hF
  refine v_sipush (pc := 0) (v := 13823) K dX12_spreads_0 rfl ?_
  refine v_istore_n (pc := 3) (lv' := [(1, .int (13823 : Int32)), (0, .ref (ly_o y 1000))]) K dX12_spreads_3 1 rfl (by decide) rfl ?_
  refine v_sub [1, 0] rfl ?_
  exact bX12_spreads_4 l K hy hQ q_F hF
set_option maxRecDepth 100000 in
set_option maxHeartbeats 4000000 in
theorem kX12_spreads (l : Launch) {y : Ly} (hJ : ly_J y) (hy : y.2.2.2.2 = 1) {M M1 : QM} (hF : fX12_spreads M  = some M1) : Met l yX12_spreads wqX12_spreads rmX12_spreads (q_P y [.ref (ly_o y 1000)] M) (q_E y none M1) 0 0 (ly_A y) :=
  q_met (by decide) rfl hJ rfl rfl rfl (fun x K hQ => bX12_spreads_0 l K hy (z := M1) hQ  hF)
-- ===== X12_works (I)V
theorem jd_X12_works : yX12_works.cls = RX12 ∧ yX12_works.cls ≠ "java/lang/invoke/MethodHandle" ∧ yX12_works.cls ≠ "java/lang/invoke/VarHandle" ∧ (parseMethodDescriptor yX12_works.desc).map (fun d => d.parameters.length) = some 1 := by decide +kernel
abbrev wqX12_works : List Cond := .code yX12_works cX12_works 8 none :: wsL_law
abbrev rmX12_works : Room := { frames := 6, cells := 0, slots := 0, locals := 148 }
def fX12_works_b319 (k69 : QM → Int32 → Int32 → Int32 → Int32 → Option QM) (k8 : QM → Int32 → Int32 → Option QM) (M : QM) (x1 : Int32) (x2 : Int32) (x3 : Int32) (x4 : Int32) : Option QM := (k69 M x1 x2 x3 (x4 + (1 : Int32)))
set_option maxRecDepth 100000 in
set_option maxHeartbeats 4000000 in
theorem bX12_works_319 {x : Cx} {y : Ly} (l : Launch) (K : VK x l rmX12_works y 8 cX12_works RX12 wqX12_works) (hy : y.2.2.2.2 = 1) {z : QM} (hQ : VQ x y none z none) {k69 : QM → Int32 → Int32 → Int32 → Int32 → Option QM} (hk69 : ∀ {M : QM} {x1 : Int32} {x2 : Int32} {x3 : Int32} {x4 : Int32}, k69 M x1 x2 x3 x4 = some z → V x y 8 M 69 [(0, .ref (ly_o y 1000)), (1, .int x1), (2, .int x2), (3, .int x3), (4, .int x4)] []) {k8 : QM → Int32 → Int32 → Option QM} (hk8 : ∀ {M : QM} {x1 : Int32} {x2 : Int32}, k8 M x1 x2 = some z → V x y 8 M 8 [(0, .ref (ly_o y 1000)), (1, .int x1), (2, .int x2)] []) {M : QM} {x1 : Int32} {x2 : Int32} {x3 : Int32} {x4 : Int32} (hF : fX12_works_b319 k69 k8 M x1 x2 x3 x4 = some z) : V x y 8 M 319 [(0, .ref (ly_o y 1000)), (1, .int x1), (2, .int x2), (3, .int x3), (4, .int x4)] [] := by
  unfold fX12_works_b319 at hF
  refine v_iinc (pc := 319) (v1 := x4 + (1 : Int32)) (lv' := [(4, .int (x4 + (1 : Int32))), (0, .ref (ly_o y 1000)), (1, .int x1), (2, .int x2), (3, .int x3)]) K dX12_works_319 4 rfl rfl (by decide) rfl ?_
  refine v_goto (pc := 322) (tgt := 69) K dX12_works_322 (by decide) ?_
  refine v_sub [1, 2, 3, 4, 0] rfl ?_
  exact hk69 hF
def fX12_works_b318 (k69 : QM → Int32 → Int32 → Int32 → Int32 → Option QM) (k8 : QM → Int32 → Int32 → Option QM) (M : QM) (x1 : Int32) (x2 : Int32) (x3 : Int32) (x4 : Int32) (s0 : Int32) (s1 : Int32) : Option QM := (if q_in s1 13824 then (q_t (p_a M 1000 41 s1.toNatClampNeg s0) fun M75 => (fX12_works_b319 k69 k8 M75 x1 x2 x3 x4)) else none)
set_option maxRecDepth 100000 in
set_option maxHeartbeats 4000000 in
theorem bX12_works_318 {x : Cx} {y : Ly} (l : Launch) (K : VK x l rmX12_works y 8 cX12_works RX12 wqX12_works) (hy : y.2.2.2.2 = 1) {z : QM} (hQ : VQ x y none z none) {k69 : QM → Int32 → Int32 → Int32 → Int32 → Option QM} (hk69 : ∀ {M : QM} {x1 : Int32} {x2 : Int32} {x3 : Int32} {x4 : Int32}, k69 M x1 x2 x3 x4 = some z → V x y 8 M 69 [(0, .ref (ly_o y 1000)), (1, .int x1), (2, .int x2), (3, .int x3), (4, .int x4)] []) {k8 : QM → Int32 → Int32 → Option QM} (hk8 : ∀ {M : QM} {x1 : Int32} {x2 : Int32}, k8 M x1 x2 = some z → V x y 8 M 8 [(0, .ref (ly_o y 1000)), (1, .int x1), (2, .int x2)] []) {M : QM} {x1 : Int32} {x2 : Int32} {x3 : Int32} {x4 : Int32} {s0 : Int32} {s1 : Int32} (hF : fX12_works_b318 k69 k8 M x1 x2 x3 x4 s0 s1 = some z) : V x y 8 M 318 [(0, .ref (ly_o y 1000)), (1, .int x1), (2, .int x2), (3, .int x3), (4, .int x4)] [.int s0, .int s1, .ref (ly_a y 1000 41)] := by
  unfold fX12_works_b318 at hF
  refine uX12_briefOf (pc := 318) K hy (by decide) hF dX12_works_318 (fun hi74 hF => ?_)
  refine v_nmM hF (fun M75 hF => ?_)
  exact bX12_works_319 l K hy hQ hk69 hk8 hF
def fX12_works_b312 (k69 : QM → Int32 → Int32 → Int32 → Int32 → Option QM) (k8 : QM → Int32 → Int32 → Option QM) (M : QM) (x1 : Int32) (x2 : Int32) (x3 : Int32) (x4 : Int32) (s0 : Int32) : Option QM := (if q_in x2 13824 then (fX12_works_b318 k69 k8 M x1 x2 x3 x4 (q_a M 1000 41 x2.toNatClampNeg) s0) else none)
set_option maxRecDepth 100000 in
set_option maxHeartbeats 4000000 in
theorem bX12_works_312 {x : Cx} {y : Ly} (l : Launch) (K : VK x l rmX12_works y 8 cX12_works RX12 wqX12_works) (hy : y.2.2.2.2 = 1) {z : QM} (hQ : VQ x y none z none) {k69 : QM → Int32 → Int32 → Int32 → Int32 → Option QM} (hk69 : ∀ {M : QM} {x1 : Int32} {x2 : Int32} {x3 : Int32} {x4 : Int32}, k69 M x1 x2 x3 x4 = some z → V x y 8 M 69 [(0, .ref (ly_o y 1000)), (1, .int x1), (2, .int x2), (3, .int x3), (4, .int x4)] []) {k8 : QM → Int32 → Int32 → Option QM} (hk8 : ∀ {M : QM} {x1 : Int32} {x2 : Int32}, k8 M x1 x2 = some z → V x y 8 M 8 [(0, .ref (ly_o y 1000)), (1, .int x1), (2, .int x2)] []) {M : QM} {x1 : Int32} {x2 : Int32} {x3 : Int32} {x4 : Int32} {s0 : Int32} (hF : fX12_works_b312 k69 k8 M x1 x2 x3 x4 s0 = some z) : V x y 8 M 312 [(0, .ref (ly_o y 1000)), (1, .int x1), (2, .int x2), (3, .int x3), (4, .int x4)] [.int s0, .ref (ly_a y 1000 41)] := by
  unfold fX12_works_b312 at hF
  refine v_aload_n (pc := 312) K dX12_works_312 0 rfl ?_
  refine gX12_briefOf (pc := 313) K hy (by decide) jn_X12 (List.mem_cons_of_mem _ jl_X12_79) dX12_works_313 ?_
  refine v_iload_n (pc := 316) K dX12_works_316 2 rfl ?_
  refine iX12_briefOf (pc := 317) K hy (by decide) hF dX12_works_317 (fun hi76 hF => ?_)
  exact bX12_works_318 l K hy hQ hk69 hk8 hF
def fX12_works_b278 (k69 : QM → Int32 → Int32 → Int32 → Int32 → Option QM) (k8 : QM → Int32 → Int32 → Option QM) (M : QM) (x1 : Int32) (x2 : Int32) (x3 : Int32) (x4 : Int32) (s0 : Int32) : Option QM := if (99 : Int32) ≤ s0 then (fX12_works_b312 k69 k8 M x1 x2 x3 x4 x2) else (if q_in x2 13824 then if (q_a M 1000 41 x2.toNatClampNeg) ≤ (s0 + (1 : Int32)) then (fX12_works_b312 k69 k8 M x1 x2 x3 x4 x2) else (fX12_works_b318 k69 k8 M x1 x2 x3 x4 (s0 + (1 : Int32)) x2) else none)
set_option maxRecDepth 100000 in
set_option maxHeartbeats 4000000 in
theorem bX12_works_278 {x : Cx} {y : Ly} (l : Launch) (K : VK x l rmX12_works y 8 cX12_works RX12 wqX12_works) (hy : y.2.2.2.2 = 1) {z : QM} (hQ : VQ x y none z none) {k69 : QM → Int32 → Int32 → Int32 → Int32 → Option QM} (hk69 : ∀ {M : QM} {x1 : Int32} {x2 : Int32} {x3 : Int32} {x4 : Int32}, k69 M x1 x2 x3 x4 = some z → V x y 8 M 69 [(0, .ref (ly_o y 1000)), (1, .int x1), (2, .int x2), (3, .int x3), (4, .int x4)] []) {k8 : QM → Int32 → Int32 → Option QM} (hk8 : ∀ {M : QM} {x1 : Int32} {x2 : Int32}, k8 M x1 x2 = some z → V x y 8 M 8 [(0, .ref (ly_o y 1000)), (1, .int x1), (2, .int x2)] []) {M : QM} {x1 : Int32} {x2 : Int32} {x3 : Int32} {x4 : Int32} {s0 : Int32} (hF : fX12_works_b278 k69 k8 M x1 x2 x3 x4 s0 = some z) : V x y 8 M 278 [(0, .ref (ly_o y 1000)), (1, .int x1), (2, .int x2), (3, .int x3), (4, .int x4)] [.int s0] := by
  unfold fX12_works_b278 at hF
  refine v_istore (pc := 278) (lv' := [(7, .int s0), (0, .ref (ly_o y 1000)), (1, .int x1), (2, .int x2), (3, .int x3), (4, .int x4)]) K 7 dX12_works_278 (by decide) rfl ?_
  refine v_aload_n (pc := 280) K dX12_works_280 1 rfl ?_
  refine gX12_briefOf (pc := 281) K hy (by decide) jn_X12 (List.mem_cons_of_mem _ jl_X12_79) dX12_works_281 ?_
  refine v_iload_n (pc := 284) K dX12_works_284 3 rfl ?_
  refine v_iload (pc := 285) K dX12_works_285 0 rfl ?_
  refine v_bipush (pc := 287) (v := 99) K dX12_works_287 rfl ?_
  refine v_icmp_ge (pc := 289) (tgt := 312) K dX12_works_289 (by decide) hF (fun c73 hF => ?_) (fun c73 hF => ?_)
  · refine v_sub [1, 2, 3, 4, 5] rfl ?_
    exact bX12_works_312 l K hy hQ hk69 hk8 hF
  · refine v_iload (pc := 292) K dX12_works_292 0 rfl ?_
    refine v_iconst (pc := 294) (v := 1) K dX12_works_294 rfl ?_
    refine v_iadd (pc := 295) K dX12_works_295 ?_
    refine v_aload_n (pc := 296) K dX12_works_296 1 rfl ?_
    refine gX12_briefOf (pc := 297) K hy (by decide) jn_X12 (List.mem_cons_of_mem _ jl_X12_79) dX12_works_297 ?_
    refine v_iload_n (pc := 300) K dX12_works_300 3 rfl ?_
    refine iX12_briefOf (pc := 301) K hy (by decide) hF dX12_works_301 (fun hi71 hF => ?_)
    refine v_icmp_ge (pc := 302) (tgt := 312) K dX12_works_302 (by decide) hF (fun c72 hF => ?_) (fun c72 hF => ?_)
    · refine v_sub [1, 2, 3, 4, 5] rfl ?_
      exact bX12_works_312 l K hy hQ hk69 hk8 hF
    · refine v_iload (pc := 305) K dX12_works_305 0 rfl ?_
      refine v_iconst (pc := 307) (v := 1) K dX12_works_307 rfl ?_
      refine v_iadd (pc := 308) K dX12_works_308 ?_
      refine v_goto (pc := 309) (tgt := 318) K dX12_works_309 (by decide) ?_
      refine v_sub [1, 2, 3, 4, 5] rfl ?_
      exact bX12_works_318 l K hy hQ hk69 hk8 hF
def fX12_works_b247 (k69 : QM → Int32 → Int32 → Int32 → Int32 → Option QM) (k8 : QM → Int32 → Int32 → Option QM) (M : QM) (x1 : Int32) (x2 : Int32) (x3 : Int32) (x4 : Int32) (x5 : Int32) (s0 : Int64) (s1 : Int64) (s2 : Int32) : Option QM := (if q_in s2 13824 then (q_t (p_l M 1000 40 s2.toNatClampNeg (s1 + s0)) fun M64 => if (0 : Int32) ≤ x5 then (if q_in x5 13824 then (fX12_works_b278 k69 k8 M64 x1 x2 x3 x4 (q_a M64 1000 41 x5.toNatClampNeg)) else none) else (q_b (fX12_outcome M64) fun r67 M68 => if r67 ≠ x1 then (fX12_works_b278 k69 k8 M68 x1 x2 x3 x4 (99 : Int32)) else (fX12_works_b278 k69 k8 M68 x1 x2 x3 x4 (0 : Int32)))) else none)
set_option maxRecDepth 100000 in
set_option maxHeartbeats 4000000 in
theorem bX12_works_247 {x : Cx} {y : Ly} (l : Launch) (K : VK x l rmX12_works y 8 cX12_works RX12 wqX12_works) (hy : y.2.2.2.2 = 1) {z : QM} (hQ : VQ x y none z none) {k69 : QM → Int32 → Int32 → Int32 → Int32 → Option QM} (hk69 : ∀ {M : QM} {x1 : Int32} {x2 : Int32} {x3 : Int32} {x4 : Int32}, k69 M x1 x2 x3 x4 = some z → V x y 8 M 69 [(0, .ref (ly_o y 1000)), (1, .int x1), (2, .int x2), (3, .int x3), (4, .int x4)] []) {k8 : QM → Int32 → Int32 → Option QM} (hk8 : ∀ {M : QM} {x1 : Int32} {x2 : Int32}, k8 M x1 x2 = some z → V x y 8 M 8 [(0, .ref (ly_o y 1000)), (1, .int x1), (2, .int x2)] []) {M : QM} {x1 : Int32} {x2 : Int32} {x3 : Int32} {x4 : Int32} {x5 : Int32} {s0 : Int64} {s1 : Int64} {s2 : Int32} (hF : fX12_works_b247 k69 k8 M x1 x2 x3 x4 x5 s0 s1 s2 = some z) : V x y 8 M 247 [(0, .ref (ly_o y 1000)), (1, .int x1), (2, .int x2), (3, .int x3), (4, .int x4), (5, .int x5)] [.long s0, .long s1, .int s2, .ref (ly_a y 1000 40)] := by
  unfold fX12_works_b247 at hF
  refine v_ladd (pc := 247) K dX12_works_247 ?_
  refine uX12_waysOf (pc := 248) K hy (by decide) hF dX12_works_248 (fun hi63 hF => ?_)
  refine v_nmM hF (fun M64 hF => ?_)
  refine v_iload (pc := 249) K dX12_works_249 5 rfl ?_
  refine v_if_ge (pc := 251) (tgt := 271) K dX12_works_251 (by decide) hF (fun c70 hF => ?_) (fun c70 hF => ?_)
  · refine v_aload_n (pc := 271) K dX12_works_271 0 rfl ?_
    refine gX12_briefOf (pc := 272) K hy (by decide) jn_X12 (List.mem_cons_of_mem _ jl_X12_79) dX12_works_272 ?_
    refine v_iload (pc := 275) K dX12_works_275 5 rfl ?_
    refine iX12_briefOf (pc := 277) K hy (by decide) hF dX12_works_277 (fun hi65 hF => ?_)
    refine v_sub [0, 1, 2, 3, 4] rfl ?_
    exact bX12_works_278 l K hy hQ hk69 hk8 hF
  · refine v_aload_n (pc := 254) K dX12_works_254 0 rfl ?_
    obtain ⟨r67, M68, hc66, hF⟩ := q_bE hF
    refine v_callV (pc := 255) (ci := 11) (As := []) (rest := []) (st' := [.int r67]) (r := some (.int r67)) (M1 := M68) K (kX12_outcome l K.2.2.2.2.2.2.1 hy hc66) (jg_V jl_X12_377 jw_i_X12_outcome jw_s_X12_outcome jw_n_X12 jw_c_X12_outcome) rfl rfl rfl jd_X12_outcome ⟨Nat.le_of_ble_eq_true rfl, Nat.le_of_ble_eq_true rfl⟩ rfl rfl (Nat.le_of_ble_eq_true rfl) (by decide) (okc_1 hy) rfl dX12_works_255 rfl ?_
    refine v_iload_n (pc := 258) K dX12_works_258 1 rfl ?_
    refine v_icmp_ne (pc := 259) (tgt := 266) K dX12_works_259 (by decide) hF (fun c69 hF => ?_) (fun c69 hF => ?_)
    · refine v_bipush (pc := 266) (v := 99) K dX12_works_266 rfl ?_
      refine v_goto (pc := 268) (tgt := 278) K dX12_works_268 (by decide) ?_
      refine v_sub [0, 1, 2, 3, 4] rfl ?_
      exact bX12_works_278 l K hy hQ hk69 hk8 hF
    · refine v_iconst (pc := 262) (v := 0) K dX12_works_262 rfl ?_
      refine v_goto (pc := 263) (tgt := 278) K dX12_works_263 (by decide) ?_
      refine v_sub [0, 1, 2, 3, 4] rfl ?_
      exact bX12_works_278 l K hy hQ hk69 hk8 hF
def fX12_works_b210 (k69 : QM → Int32 → Int32 → Int32 → Int32 → Option QM) (k8 : QM → Int32 → Int32 → Option QM) (M : QM) (x1 : Int32) (x2 : Int32) (x3 : Int32) (x4 : Int32) (x5 : Int32) (s0 : Int32) (s1 : Int32) (s2 : Int32) : Option QM := (if q_in s2 13824 then (q_t (p_a M 1000 39 s2.toNatClampNeg (s1 ||| s0)) fun M55 => (if q_in x2 13824 then if (0 : Int32) ≤ x5 then (if q_in x5 13824 then (fX12_works_b247 k69 k8 M55 x1 x2 x3 x4 x5 (q_l M55 1000 40 x5.toNatClampNeg) (q_l M55 1000 40 x2.toNatClampNeg) x2) else none) else (q_b (fX12_outcome M55) fun r59 M60 => if r59 ≠ x1 then (fX12_works_b247 k69 k8 M60 x1 x2 x3 x4 x5 (0 : Int64) (q_l M55 1000 40 x2.toNatClampNeg) x2) else (fX12_works_b247 k69 k8 M60 x1 x2 x3 x4 x5 (1 : Int64) (q_l M55 1000 40 x2.toNatClampNeg) x2)) else none)) else none)
set_option maxRecDepth 100000 in
set_option maxHeartbeats 4000000 in
theorem bX12_works_210 {x : Cx} {y : Ly} (l : Launch) (K : VK x l rmX12_works y 8 cX12_works RX12 wqX12_works) (hy : y.2.2.2.2 = 1) {z : QM} (hQ : VQ x y none z none) {k69 : QM → Int32 → Int32 → Int32 → Int32 → Option QM} (hk69 : ∀ {M : QM} {x1 : Int32} {x2 : Int32} {x3 : Int32} {x4 : Int32}, k69 M x1 x2 x3 x4 = some z → V x y 8 M 69 [(0, .ref (ly_o y 1000)), (1, .int x1), (2, .int x2), (3, .int x3), (4, .int x4)] []) {k8 : QM → Int32 → Int32 → Option QM} (hk8 : ∀ {M : QM} {x1 : Int32} {x2 : Int32}, k8 M x1 x2 = some z → V x y 8 M 8 [(0, .ref (ly_o y 1000)), (1, .int x1), (2, .int x2)] []) {M : QM} {x1 : Int32} {x2 : Int32} {x3 : Int32} {x4 : Int32} {x5 : Int32} {s0 : Int32} {s1 : Int32} {s2 : Int32} (hF : fX12_works_b210 k69 k8 M x1 x2 x3 x4 x5 s0 s1 s2 = some z) : V x y 8 M 210 [(0, .ref (ly_o y 1000)), (1, .int x1), (2, .int x2), (3, .int x3), (4, .int x4), (5, .int x5)] [.int s0, .int s1, .int s2, .ref (ly_a y 1000 39)] := by
  unfold fX12_works_b210 at hF
  refine v_ior (pc := 210) K dX12_works_210 ?_
  refine uX12_endsOf (pc := 211) K hy (by decide) hF dX12_works_211 (fun hi54 hF => ?_)
  refine v_nmM hF (fun M55 hF => ?_)
  refine v_aload_n (pc := 212) K dX12_works_212 0 rfl ?_
  refine gX12_waysOf (pc := 213) K hy (by decide) jn_X12 (List.mem_cons_of_mem _ jl_X12_75) dX12_works_213 ?_
  refine v_iload_n (pc := 216) K dX12_works_216 2 rfl ?_
  refine v_dup2 (pc := 217) K dX12_works_217 rfl rfl ?_
  refine iX12_waysOf (pc := 218) K hy (by decide) hF dX12_works_218 (fun hi56 hF => ?_)
  refine v_iload (pc := 219) K dX12_works_219 5 rfl ?_
  refine v_if_ge (pc := 221) (tgt := 240) K dX12_works_221 (by decide) hF (fun c62 hF => ?_) (fun c62 hF => ?_)
  · refine v_aload_n (pc := 240) K dX12_works_240 0 rfl ?_
    refine gX12_waysOf (pc := 241) K hy (by decide) jn_X12 (List.mem_cons_of_mem _ jl_X12_75) dX12_works_241 ?_
    refine v_iload (pc := 244) K dX12_works_244 5 rfl ?_
    refine iX12_waysOf (pc := 246) K hy (by decide) hF dX12_works_246 (fun hi57 hF => ?_)
    exact bX12_works_247 l K hy hQ hk69 hk8 hF
  · refine v_aload_n (pc := 224) K dX12_works_224 0 rfl ?_
    obtain ⟨r59, M60, hc58, hF⟩ := q_bE hF
    refine v_callV (pc := 225) (ci := 11) (As := []) (rest := [.long (q_l M55 1000 40 x2.toNatClampNeg), .int x2, .ref (ly_a y 1000 40)]) (st' := [.int r59, .long (q_l M55 1000 40 x2.toNatClampNeg), .int x2, .ref (ly_a y 1000 40)]) (r := some (.int r59)) (M1 := M60) K (kX12_outcome l K.2.2.2.2.2.2.1 hy hc58) (jg_V jl_X12_377 jw_i_X12_outcome jw_s_X12_outcome jw_n_X12 jw_c_X12_outcome) rfl rfl rfl jd_X12_outcome ⟨Nat.le_of_ble_eq_true rfl, Nat.le_of_ble_eq_true rfl⟩ rfl rfl (Nat.le_of_ble_eq_true rfl) (by decide) (okc_1 hy) rfl dX12_works_225 rfl ?_
    refine v_iload_n (pc := 228) K dX12_works_228 1 rfl ?_
    refine v_icmp_ne (pc := 229) (tgt := 236) K dX12_works_229 (by decide) hF (fun c61 hF => ?_) (fun c61 hF => ?_)
    · refine v_lconst (pc := 236) (v := 0) K dX12_works_236 rfl ?_
      refine v_goto (pc := 237) (tgt := 247) K dX12_works_237 (by decide) ?_
      exact bX12_works_247 l K hy hQ hk69 hk8 hF
    · refine v_lconst (pc := 232) (v := 1) K dX12_works_232 rfl ?_
      refine v_goto (pc := 233) (tgt := 247) K dX12_works_233 (by decide) ?_
      exact bX12_works_247 l K hy hQ hk69 hk8 hF
def fX12_works_b182 (k69 : QM → Int32 → Int32 → Int32 → Int32 → Option QM) (k8 : QM → Int32 → Int32 → Option QM) (M : QM) (x1 : Int32) (x2 : Int32) (x3 : Int32) (x4 : Int32) (x5 : Int32) : Option QM := (if q_in x2 13824 then if (0 : Int32) ≤ x5 then (if q_in x5 13824 then (fX12_works_b210 k69 k8 M x1 x2 x3 x4 x5 (q_a M 1000 39 x5.toNatClampNeg) (q_a M 1000 39 x2.toNatClampNeg) x2) else none) else (q_b (fX12_outcome M) fun r51 M52 => (fX12_works_b210 k69 k8 M52 x1 x2 x3 x4 x5 ((1 : Int32) <<< (r51 &&& (31 : Int32))) (q_a M 1000 39 x2.toNatClampNeg) x2)) else none)
set_option maxRecDepth 100000 in
set_option maxHeartbeats 4000000 in
theorem bX12_works_182 {x : Cx} {y : Ly} (l : Launch) (K : VK x l rmX12_works y 8 cX12_works RX12 wqX12_works) (hy : y.2.2.2.2 = 1) {z : QM} (hQ : VQ x y none z none) {k69 : QM → Int32 → Int32 → Int32 → Int32 → Option QM} (hk69 : ∀ {M : QM} {x1 : Int32} {x2 : Int32} {x3 : Int32} {x4 : Int32}, k69 M x1 x2 x3 x4 = some z → V x y 8 M 69 [(0, .ref (ly_o y 1000)), (1, .int x1), (2, .int x2), (3, .int x3), (4, .int x4)] []) {k8 : QM → Int32 → Int32 → Option QM} (hk8 : ∀ {M : QM} {x1 : Int32} {x2 : Int32}, k8 M x1 x2 = some z → V x y 8 M 8 [(0, .ref (ly_o y 1000)), (1, .int x1), (2, .int x2)] []) {M : QM} {x1 : Int32} {x2 : Int32} {x3 : Int32} {x4 : Int32} {x5 : Int32} (hF : fX12_works_b182 k69 k8 M x1 x2 x3 x4 x5 = some z) : V x y 8 M 182 [(0, .ref (ly_o y 1000)), (1, .int x1), (2, .int x2), (3, .int x3), (4, .int x4), (5, .int x5)] [] := by
  unfold fX12_works_b182 at hF
  refine v_aload_n (pc := 182) K dX12_works_182 0 rfl ?_
  refine gX12_endsOf (pc := 183) K hy (by decide) jn_X12 (List.mem_cons_of_mem _ jl_X12_72) dX12_works_183 ?_
  refine v_iload_n (pc := 186) K dX12_works_186 2 rfl ?_
  refine v_dup2 (pc := 187) K dX12_works_187 rfl rfl ?_
  refine iX12_endsOf (pc := 188) K hy (by decide) hF dX12_works_188 (fun hi48 hF => ?_)
  refine v_iload (pc := 189) K dX12_works_189 5 rfl ?_
  refine v_if_ge (pc := 191) (tgt := 203) K dX12_works_191 (by decide) hF (fun c53 hF => ?_) (fun c53 hF => ?_)
  · refine v_aload_n (pc := 203) K dX12_works_203 0 rfl ?_
    refine gX12_endsOf (pc := 204) K hy (by decide) jn_X12 (List.mem_cons_of_mem _ jl_X12_72) dX12_works_204 ?_
    refine v_iload (pc := 207) K dX12_works_207 5 rfl ?_
    refine iX12_endsOf (pc := 209) K hy (by decide) hF dX12_works_209 (fun hi49 hF => ?_)
    exact bX12_works_210 l K hy hQ hk69 hk8 hF
  · refine v_iconst (pc := 194) (v := 1) K dX12_works_194 rfl ?_
    refine v_aload_n (pc := 195) K dX12_works_195 0 rfl ?_
    obtain ⟨r51, M52, hc50, hF⟩ := q_bE hF
    refine v_callV (pc := 196) (ci := 11) (As := []) (rest := [.int (1 : Int32), .int (q_a M 1000 39 x2.toNatClampNeg), .int x2, .ref (ly_a y 1000 39)]) (st' := [.int r51, .int (1 : Int32), .int (q_a M 1000 39 x2.toNatClampNeg), .int x2, .ref (ly_a y 1000 39)]) (r := some (.int r51)) (M1 := M52) K (kX12_outcome l K.2.2.2.2.2.2.1 hy hc50) (jg_V jl_X12_377 jw_i_X12_outcome jw_s_X12_outcome jw_n_X12 jw_c_X12_outcome) rfl rfl rfl jd_X12_outcome ⟨Nat.le_of_ble_eq_true rfl, Nat.le_of_ble_eq_true rfl⟩ rfl rfl (Nat.le_of_ble_eq_true rfl) (by decide) (okc_1 hy) rfl dX12_works_196 rfl ?_
    refine v_ishl (pc := 199) K dX12_works_199 ?_
    refine v_goto (pc := 200) (tgt := 210) K dX12_works_200 (by decide) ?_
    exact bX12_works_210 l K hy hQ hk69 hk8 hF
def fX12_works_b166 (k69 : QM → Int32 → Int32 → Int32 → Int32 → Option QM) (k8 : QM → Int32 → Int32 → Option QM) (M : QM) (x1 : Int32) (x2 : Int32) (x3 : Int32) (x4 : Int32) (x5 : Int32) (x6 : Int32) : Option QM := (if q_in x2 13824 then (q_t (p_a M 1000 38 x2.toNatClampNeg x4) fun M78 => (if q_in x2 13824 then (q_t (p_a M78 1000 37 x2.toNatClampNeg x6) fun M80 => (fX12_works_b182 k69 k8 M80 x1 x2 x3 x4 x5)) else none)) else none)
set_option maxRecDepth 100000 in
set_option maxHeartbeats 4000000 in
theorem bX12_works_166 {x : Cx} {y : Ly} (l : Launch) (K : VK x l rmX12_works y 8 cX12_works RX12 wqX12_works) (hy : y.2.2.2.2 = 1) {z : QM} (hQ : VQ x y none z none) {k69 : QM → Int32 → Int32 → Int32 → Int32 → Option QM} (hk69 : ∀ {M : QM} {x1 : Int32} {x2 : Int32} {x3 : Int32} {x4 : Int32}, k69 M x1 x2 x3 x4 = some z → V x y 8 M 69 [(0, .ref (ly_o y 1000)), (1, .int x1), (2, .int x2), (3, .int x3), (4, .int x4)] []) {k8 : QM → Int32 → Int32 → Option QM} (hk8 : ∀ {M : QM} {x1 : Int32} {x2 : Int32}, k8 M x1 x2 = some z → V x y 8 M 8 [(0, .ref (ly_o y 1000)), (1, .int x1), (2, .int x2)] []) {M : QM} {x1 : Int32} {x2 : Int32} {x3 : Int32} {x4 : Int32} {x5 : Int32} {x6 : Int32} (hF : fX12_works_b166 k69 k8 M x1 x2 x3 x4 x5 x6 = some z) : V x y 8 M 166 [(0, .ref (ly_o y 1000)), (1, .int x1), (2, .int x2), (3, .int x3), (4, .int x4), (5, .int x5), (6, .int x6)] [] := by
  unfold fX12_works_b166 at hF
  refine v_aload_n (pc := 166) K dX12_works_166 0 rfl ?_
  refine gX12_gameMove (pc := 167) K hy (by decide) jn_X12 (List.mem_cons_of_mem _ jl_X12_69) dX12_works_167 ?_
  refine v_iload_n (pc := 170) K dX12_works_170 2 rfl ?_
  refine v_iload (pc := 171) K dX12_works_171 4 rfl ?_
  refine uX12_gameMove (pc := 173) K hy (by decide) hF dX12_works_173 (fun hi77 hF => ?_)
  refine v_nmM hF (fun M78 hF => ?_)
  refine v_aload_n (pc := 174) K dX12_works_174 0 rfl ?_
  refine gX12_gameOf (pc := 175) K hy (by decide) jn_X12 (List.mem_cons_of_mem _ jl_X12_66) dX12_works_175 ?_
  refine v_iload_n (pc := 178) K dX12_works_178 2 rfl ?_
  refine v_iload (pc := 179) K dX12_works_179 6 rfl ?_
  refine uX12_gameOf (pc := 181) K hy (by decide) hF dX12_works_181 (fun hi79 hF => ?_)
  refine v_nmM hF (fun M80 hF => ?_)
  refine v_sub [0, 1, 2, 3, 4, 5] rfl ?_
  exact bX12_works_182 l K hy hQ hk69 hk8 hF
def fX12_works_b136 (k69 : QM → Int32 → Int32 → Int32 → Int32 → Option QM) (k8 : QM → Int32 → Int32 → Option QM) (M : QM) (x1 : Int32) (x2 : Int32) (x3 : Int32) (x4 : Int32) (x5 : Int32) (s0 : Int32) : Option QM := (if q_in x2 13824 then if (q_a M 1000 38 x2.toNatClampNeg) < (0 : Int32) then (fX12_works_b166 k69 k8 M x1 x2 x3 x4 x5 s0) else (q_b (fX12_worth M s0 x3) fun r40 M41 => (if q_in x2 13824 then (q_b (fX12_worth M41 (q_a M41 1000 37 x2.toNatClampNeg) x3) fun r44 M45 => if r44 ≤ r40 then (fX12_works_b182 k69 k8 M45 x1 x2 x3 x4 x5) else (fX12_works_b166 k69 k8 M45 x1 x2 x3 x4 x5 s0)) else none)) else none)
set_option maxRecDepth 100000 in
set_option maxHeartbeats 4000000 in
theorem bX12_works_136 {x : Cx} {y : Ly} (l : Launch) (K : VK x l rmX12_works y 8 cX12_works RX12 wqX12_works) (hy : y.2.2.2.2 = 1) {z : QM} (hQ : VQ x y none z none) {k69 : QM → Int32 → Int32 → Int32 → Int32 → Option QM} (hk69 : ∀ {M : QM} {x1 : Int32} {x2 : Int32} {x3 : Int32} {x4 : Int32}, k69 M x1 x2 x3 x4 = some z → V x y 8 M 69 [(0, .ref (ly_o y 1000)), (1, .int x1), (2, .int x2), (3, .int x3), (4, .int x4)] []) {k8 : QM → Int32 → Int32 → Option QM} (hk8 : ∀ {M : QM} {x1 : Int32} {x2 : Int32}, k8 M x1 x2 = some z → V x y 8 M 8 [(0, .ref (ly_o y 1000)), (1, .int x1), (2, .int x2)] []) {M : QM} {x1 : Int32} {x2 : Int32} {x3 : Int32} {x4 : Int32} {x5 : Int32} {s0 : Int32} (hF : fX12_works_b136 k69 k8 M x1 x2 x3 x4 x5 s0 = some z) : V x y 8 M 136 [(0, .ref (ly_o y 1000)), (1, .int x1), (2, .int x2), (3, .int x3), (4, .int x4), (5, .int x5)] [.int s0] := by
  unfold fX12_works_b136 at hF
  refine v_istore (pc := 136) (lv' := [(6, .int s0), (0, .ref (ly_o y 1000)), (1, .int x1), (2, .int x2), (3, .int x3), (4, .int x4), (5, .int x5)]) K 6 dX12_works_136 (by decide) rfl ?_
  refine v_aload_n (pc := 138) K dX12_works_138 1 rfl ?_
  refine gX12_gameMove (pc := 139) K hy (by decide) jn_X12 (List.mem_cons_of_mem _ jl_X12_69) dX12_works_139 ?_
  refine v_iload_n (pc := 142) K dX12_works_142 3 rfl ?_
  refine iX12_gameMove (pc := 143) K hy (by decide) hF dX12_works_143 (fun hi38 hF => ?_)
  refine v_if_lt (pc := 144) (tgt := 166) K dX12_works_144 (by decide) hF (fun c47 hF => ?_) (fun c47 hF => ?_)
  · refine v_sub [1, 2, 3, 4, 5, 6, 0] rfl ?_
    exact bX12_works_166 l K hy hQ hk69 hk8 hF
  · refine v_iload (pc := 147) K dX12_works_147 0 rfl ?_
    refine v_iload_n (pc := 149) K dX12_works_149 4 rfl ?_
    obtain ⟨r40, M41, hc39, hF⟩ := q_bE hF
    refine v_callS (pc := 150) (As := [.int s0, .int x3]) (rest := []) (st' := [.int r40]) (r := some (.int r40)) (M1 := M41) K (kX12_worth l K.2.2.2.2.2.2.1 hy hc39) (jg_S jl_X12_380 jw_t_X12_worth jw_n_X12 jw_c_X12_worth) rfl rfl rfl jd_X12_worth ⟨Nat.le_of_ble_eq_true rfl, Nat.le_of_ble_eq_true rfl⟩ rfl rfl (Nat.le_of_ble_eq_true rfl) dX12_works_150 rfl ?_
    refine v_aload_n (pc := 153) K dX12_works_153 1 rfl ?_
    refine gX12_gameOf (pc := 154) K hy (by decide) jn_X12 (List.mem_cons_of_mem _ jl_X12_66) dX12_works_154 ?_
    refine v_iload_n (pc := 157) K dX12_works_157 3 rfl ?_
    refine iX12_gameOf (pc := 158) K hy (by decide) hF dX12_works_158 (fun hi42 hF => ?_)
    refine v_iload_n (pc := 159) K dX12_works_159 4 rfl ?_
    obtain ⟨r44, M45, hc43, hF⟩ := q_bE hF
    refine v_callS (pc := 160) (As := [.int (q_a M41 1000 37 x2.toNatClampNeg), .int x3]) (rest := [.int r40]) (st' := [.int r44, .int r40]) (r := some (.int r44)) (M1 := M45) K (kX12_worth l K.2.2.2.2.2.2.1 hy hc43) (jg_S jl_X12_380 jw_t_X12_worth jw_n_X12 jw_c_X12_worth) rfl rfl rfl jd_X12_worth ⟨Nat.le_of_ble_eq_true rfl, Nat.le_of_ble_eq_true rfl⟩ rfl rfl (Nat.le_of_ble_eq_true rfl) dX12_works_160 rfl ?_
    refine v_icmp_ge (pc := 163) (tgt := 182) K dX12_works_163 (by decide) hF (fun c46 hF => ?_) (fun c46 hF => ?_)
    · refine v_sub [1, 2, 3, 4, 5, 6] rfl ?_
      exact bX12_works_182 l K hy hQ hk69 hk8 hF
    · refine v_sub [1, 2, 3, 4, 5, 6, 0] rfl ?_
      exact bX12_works_166 l K hy hQ hk69 hk8 hF
def fX12_works_b115 (k69 : QM → Int32 → Int32 → Int32 → Int32 → Option QM) (k8 : QM → Int32 → Int32 → Option QM) (M : QM) (x1 : Int32) (x2 : Int32) (x3 : Int32) (x4 : Int32) (s0 : Int32) : Option QM := if (0 : Int32) ≤ s0 then (if q_in s0 13824 then (fX12_works_b136 k69 k8 M x1 x2 x3 x4 s0 (q_a M 1000 37 s0.toNatClampNeg)) else none) else (q_b (fX12_outcome M) fun r35 M36 => (fX12_works_b136 k69 k8 M36 x1 x2 x3 x4 s0 r35))
set_option maxRecDepth 100000 in
set_option maxHeartbeats 4000000 in
theorem bX12_works_115 {x : Cx} {y : Ly} (l : Launch) (K : VK x l rmX12_works y 8 cX12_works RX12 wqX12_works) (hy : y.2.2.2.2 = 1) {z : QM} (hQ : VQ x y none z none) {k69 : QM → Int32 → Int32 → Int32 → Int32 → Option QM} (hk69 : ∀ {M : QM} {x1 : Int32} {x2 : Int32} {x3 : Int32} {x4 : Int32}, k69 M x1 x2 x3 x4 = some z → V x y 8 M 69 [(0, .ref (ly_o y 1000)), (1, .int x1), (2, .int x2), (3, .int x3), (4, .int x4)] []) {k8 : QM → Int32 → Int32 → Option QM} (hk8 : ∀ {M : QM} {x1 : Int32} {x2 : Int32}, k8 M x1 x2 = some z → V x y 8 M 8 [(0, .ref (ly_o y 1000)), (1, .int x1), (2, .int x2)] []) {M : QM} {x1 : Int32} {x2 : Int32} {x3 : Int32} {x4 : Int32} {s0 : Int32} (hF : fX12_works_b115 k69 k8 M x1 x2 x3 x4 s0 = some z) : V x y 8 M 115 [(0, .ref (ly_o y 1000)), (1, .int x1), (2, .int x2), (3, .int x3), (4, .int x4)] [.int s0] := by
  unfold fX12_works_b115 at hF
  refine v_istore (pc := 115) (lv' := [(5, .int s0), (0, .ref (ly_o y 1000)), (1, .int x1), (2, .int x2), (3, .int x3), (4, .int x4)]) K 5 dX12_works_115 (by decide) rfl ?_
  refine v_iload (pc := 117) K dX12_works_117 0 rfl ?_
  refine v_if_ge (pc := 119) (tgt := 129) K dX12_works_119 (by decide) hF (fun c37 hF => ?_) (fun c37 hF => ?_)
  · refine v_aload_n (pc := 129) K dX12_works_129 1 rfl ?_
    refine gX12_gameOf (pc := 130) K hy (by decide) jn_X12 (List.mem_cons_of_mem _ jl_X12_66) dX12_works_130 ?_
    refine v_iload (pc := 133) K dX12_works_133 0 rfl ?_
    refine iX12_gameOf (pc := 135) K hy (by decide) hF dX12_works_135 (fun hi33 hF => ?_)
    refine v_sub [1, 2, 3, 4, 5, 0] rfl ?_
    exact bX12_works_136 l K hy hQ hk69 hk8 hF
  · refine v_aload_n (pc := 122) K dX12_works_122 1 rfl ?_
    obtain ⟨r35, M36, hc34, hF⟩ := q_bE hF
    refine v_callV (pc := 123) (ci := 11) (As := []) (rest := []) (st' := [.int r35]) (r := some (.int r35)) (M1 := M36) K (kX12_outcome l K.2.2.2.2.2.2.1 hy hc34) (jg_V jl_X12_377 jw_i_X12_outcome jw_s_X12_outcome jw_n_X12 jw_c_X12_outcome) rfl rfl rfl jd_X12_outcome ⟨Nat.le_of_ble_eq_true rfl, Nat.le_of_ble_eq_true rfl⟩ rfl rfl (Nat.le_of_ble_eq_true rfl) (by decide) (okc_1 hy) rfl dX12_works_123 rfl ?_
    refine v_goto (pc := 126) (tgt := 136) K dX12_works_126 (by decide) ?_
    refine v_sub [1, 2, 3, 4, 5, 0] rfl ?_
    exact bX12_works_136 l K hy hQ hk69 hk8 hF
def fX12_works_b325 (k8 : QM → Int32 → Int32 → Option QM) (M : QM) (x1 : Int32) (x2 : Int32) : Option QM := (k8 M x1 (x2 + (1 : Int32)))
set_option maxRecDepth 100000 in
set_option maxHeartbeats 4000000 in
theorem bX12_works_325 {x : Cx} {y : Ly} (l : Launch) (K : VK x l rmX12_works y 8 cX12_works RX12 wqX12_works) (hy : y.2.2.2.2 = 1) {z : QM} (hQ : VQ x y none z none) {k8 : QM → Int32 → Int32 → Option QM} (hk8 : ∀ {M : QM} {x1 : Int32} {x2 : Int32}, k8 M x1 x2 = some z → V x y 8 M 8 [(0, .ref (ly_o y 1000)), (1, .int x1), (2, .int x2)] []) {M : QM} {x1 : Int32} {x2 : Int32} (hF : fX12_works_b325 k8 M x1 x2 = some z) : V x y 8 M 325 [(0, .ref (ly_o y 1000)), (1, .int x1), (2, .int x2)] [] := by
  unfold fX12_works_b325 at hF
  refine v_iinc (pc := 325) (v1 := x2 + (1 : Int32)) (lv' := [(2, .int (x2 + (1 : Int32))), (0, .ref (ly_o y 1000)), (1, .int x1)]) K dX12_works_325 2 rfl rfl (by decide) rfl ?_
  refine v_goto (pc := 328) (tgt := 8) K dX12_works_328 (by decide) ?_
  refine v_sub [1, 2, 0] rfl ?_
  exact hk8 hF
def fX12_works_b69 (k8 : QM → Int32 → Int32 → Option QM) : Nat → QM → Int32 → Int32 → Int32 → Int32 → Option QM
  | 0, _, _, _, _, _ => none
  | q + 1, M, x1, x2, x3, x4 => if (11 : Int32) ≤ x4 then (fX12_works_b325 k8 M x1 x2) else (q_bv (fX12_goTo M x2) fun M20 => (q_b (fX12_can M20 x4) fun r22 M23 => if r22 ≠ (0 : Int32) then (q_bv (fX12_does M23 x4 (1 : Int32)) fun M26 => if (q_i M26 1000 34) ≤ (0 : Int32) then (q_b (fX12_place M26) fun r28 M29 => (fX12_works_b115 (fun M x1 x2 x3 x4 => fX12_works_b69 k8 q M x1 x2 x3 x4) k8 M29 x1 x2 x3 x4 r28)) else (fX12_works_b115 (fun M x1 x2 x3 x4 => fX12_works_b69 k8 q M x1 x2 x3 x4) k8 M26 x1 x2 x3 x4 (-1 : Int32))) else (fX12_works_b319 (fun M x1 x2 x3 x4 => fX12_works_b69 k8 q M x1 x2 x3 x4) k8 M23 x1 x2 x3 x4)))
set_option maxRecDepth 100000 in
set_option maxHeartbeats 4000000 in
theorem bX12_works_69 {x : Cx} {y : Ly} (l : Launch) (K : VK x l rmX12_works y 8 cX12_works RX12 wqX12_works) (hy : y.2.2.2.2 = 1) {z : QM} (hQ : VQ x y none z none) {k8 : QM → Int32 → Int32 → Option QM} (hk8 : ∀ {M : QM} {x1 : Int32} {x2 : Int32}, k8 M x1 x2 = some z → V x y 8 M 8 [(0, .ref (ly_o y 1000)), (1, .int x1), (2, .int x2)] []) : ∀ (q : Nat) {M : QM} {x1 : Int32} {x2 : Int32} {x3 : Int32} {x4 : Int32},  fX12_works_b69 k8 q M x1 x2 x3 x4 = some z → V x y 8 M 69 [(0, .ref (ly_o y 1000)), (1, .int x1), (2, .int x2), (3, .int x3), (4, .int x4)] [] := by
  intro q
  induction q with
  | zero =>
    intro M x1 x2 x3 x4  hF
    rw [fX12_works_b69] at hF
    cases hF
  | succ q ih =>
    intro M x1 x2 x3 x4  hF
    rw [fX12_works_b69] at hF
    refine v_iload (pc := 69) K dX12_works_69 4 rfl ?_
    refine v_bipush (pc := 71) (v := 11) K dX12_works_71 rfl ?_
    refine v_icmp_ge (pc := 73) (tgt := 325) K dX12_works_73 (by decide) hF (fun c32 hF => ?_) (fun c32 hF => ?_)
    · refine v_sub [0, 1, 2] rfl ?_
      exact bX12_works_325 l K hy hQ hk8 hF
    · refine v_aload_n (pc := 76) K dX12_works_76 0 rfl ?_
      refine v_iload_n (pc := 77) K dX12_works_77 2 rfl ?_
      obtain ⟨M20, hc18, hF⟩ := q_bvE hF
      refine v_callV (pc := 78) (ci := 11) (As := [.int x2]) (rest := []) (st' := []) (r := none) (M1 := M20) K (kX12_goTo l K.2.2.2.2.2.2.1 hy hc18) (jg_V jl_X12_361 jw_i_X12_goTo jw_s_X12_goTo jw_n_X12 jw_c_X12_goTo) rfl rfl rfl jd_X12_goTo ⟨Nat.le_of_ble_eq_true rfl, Nat.le_of_ble_eq_true rfl⟩ rfl rfl (Nat.le_of_ble_eq_true rfl) (by decide) (okc_1 hy) rfl dX12_works_78 rfl ?_
      refine v_aload_n (pc := 81) K dX12_works_81 0 rfl ?_
      refine v_iload (pc := 82) K dX12_works_82 4 rfl ?_
      obtain ⟨r22, M23, hc21, hF⟩ := q_bE hF
      refine v_callV (pc := 84) (ci := 11) (As := [.int x4]) (rest := []) (st' := [.int r22]) (r := some (.int r22)) (M1 := M23) K (kX12_can l K.2.2.2.2.2.2.1 hy hc21) (jg_V jl_X12_364 jw_i_X12_can jw_s_X12_can jw_n_X12 jw_c_X12_can) rfl rfl rfl jd_X12_can ⟨Nat.le_of_ble_eq_true rfl, Nat.le_of_ble_eq_true rfl⟩ rfl rfl (Nat.le_of_ble_eq_true rfl) (by decide) (okc_1 hy) rfl dX12_works_84 rfl ?_
      refine v_if_ne (pc := 87) (tgt := 93) K dX12_works_87 (by decide) hF (fun c31 hF => ?_) (fun c31 hF => ?_)
      · refine v_aload_n (pc := 93) K dX12_works_93 0 rfl ?_
        refine v_iload (pc := 94) K dX12_works_94 4 rfl ?_
        refine v_iconst (pc := 96) (v := 1) K dX12_works_96 rfl ?_
        obtain ⟨M26, hc24, hF⟩ := q_bvE hF
        refine v_callV (pc := 97) (ci := 11) (As := [.int x4, .int (1 : Int32)]) (rest := []) (st' := []) (r := none) (M1 := M26) K (kX12_does l K.2.2.2.2.2.2.1 hy hc24) (jg_V jl_X12_367 jw_i_X12_does jw_s_X12_does jw_n_X12 jw_c_X12_does) rfl rfl rfl jd_X12_does ⟨Nat.le_of_ble_eq_true rfl, Nat.le_of_ble_eq_true rfl⟩ rfl rfl (Nat.le_of_ble_eq_true rfl) (by decide) (okc_1 hy) rfl dX12_works_97 rfl ?_
        refine v_aload_n (pc := 100) K dX12_works_100 0 rfl ?_
        refine gX12_ended (pc := 101) K hy (by decide) jn_X12 (List.mem_cons_of_mem _ jl_X12_347) dX12_works_101 ?_
        refine v_if_le (pc := 104) (tgt := 111) K dX12_works_104 (by decide) hF (fun c30 hF => ?_) (fun c30 hF => ?_)
        · refine v_aload_n (pc := 111) K dX12_works_111 0 rfl ?_
          obtain ⟨r28, M29, hc27, hF⟩ := q_bE hF
          refine v_callV (pc := 112) (ci := 11) (As := []) (rest := []) (st' := [.int r28]) (r := some (.int r28)) (M1 := M29) K (kX12_place l K.2.2.2.2.2.2.1 hy hc27) (jg_V jl_X12_371 jw_i_X12_place jw_s_X12_place jw_n_X12 jw_c_X12_place) rfl rfl rfl jd_X12_place ⟨Nat.le_of_ble_eq_true rfl, Nat.le_of_ble_eq_true rfl⟩ rfl rfl (Nat.le_of_ble_eq_true rfl) (by decide) (okc_1 hy) rfl dX12_works_112 rfl ?_
          exact bX12_works_115 l K hy hQ ih hk8 hF
        · refine v_iconst (pc := 107) (v := -1) K dX12_works_107 rfl ?_
          refine v_goto (pc := 108) (tgt := 115) K dX12_works_108 (by decide) ?_
          exact bX12_works_115 l K hy hQ ih hk8 hF
      · refine v_goto (pc := 90) (tgt := 319) K dX12_works_90 (by decide) ?_
        exact bX12_works_319 l K hy hQ ih hk8 hF
def fX12_works_b8 : Nat → QM → Int32 → Int32 → Option QM
  | 0, _, _, _ => none
  | q + 1, M, x1, x2 => if (13824 : Int32) ≤ x2 then some M else (if q_in x2 13824 then if (q_a M 1000 36 x2.toNatClampNeg) ≠ (0 : Int32) then (if q_in x2 13824 then (q_t (p_a M 1000 38 x2.toNatClampNeg (-1 : Int32)) fun M6 => (if q_in x2 13824 then (q_t (p_a M6 1000 39 x2.toNatClampNeg (0 : Int32)) fun M8 => (if q_in x2 13824 then (q_t (p_l M8 1000 40 x2.toNatClampNeg (0 : Int64)) fun M10 => (if q_in x2 13824 then (q_t (p_a M10 1000 41 x2.toNatClampNeg (99 : Int32)) fun M12 => (q_bv (fX12_goTo M12 x2) fun M15 => (fX12_works_b69 (fun M x1 x2 => fX12_works_b8 q M x1 x2) q_F M15 x1 x2 (q_i M15 1000 31) (0 : Int32)))) else none)) else none)) else none)) else none) else (fX12_works_b325 (fun M x1 x2 => fX12_works_b8 q M x1 x2) M x1 x2) else none)
set_option maxRecDepth 100000 in
set_option maxHeartbeats 4000000 in
theorem bX12_works_8 {x : Cx} {y : Ly} (l : Launch) (K : VK x l rmX12_works y 8 cX12_works RX12 wqX12_works) (hy : y.2.2.2.2 = 1) {z : QM} (hQ : VQ x y none z none) : ∀ (q : Nat) {M : QM} {x1 : Int32} {x2 : Int32},  fX12_works_b8 q M x1 x2 = some z → V x y 8 M 8 [(0, .ref (ly_o y 1000)), (1, .int x1), (2, .int x2)] [] := by
  intro q
  induction q with
  | zero =>
    intro M x1 x2  hF
    rw [fX12_works_b8] at hF
    cases hF
  | succ q ih =>
    intro M x1 x2  hF
    rw [fX12_works_b8] at hF
    refine v_iload_n (pc := 8) K dX12_works_8 2 rfl ?_
    refine v_sipush (pc := 9) (v := 13824) K dX12_works_9 rfl ?_
    refine v_icmp_ge (pc := 12) (tgt := 331) K dX12_works_12 (by decide) hF (fun c17 hF => ?_) (fun c17 hF => ?_)
    · have hz := (Option.some.inj hF).symm
      subst hz
      exact v_vret (pc := 331) K hQ dX12_works_331
    · refine v_aload_n (pc := 15) K dX12_works_15 0 rfl ?_
      refine gX12_comes (pc := 16) K hy (by decide) jn_X12 (List.mem_cons_of_mem _ jl_X12_62) dX12_works_16 ?_
      refine v_iload_n (pc := 19) K dX12_works_19 2 rfl ?_
      refine iX12_comes (pc := 20) K hy (by decide) hF dX12_works_20 (fun hi4 hF => ?_)
      refine v_if_ne (pc := 21) (tgt := 27) K dX12_works_21 (by decide) hF (fun c16 hF => ?_) (fun c16 hF => ?_)
      · refine v_aload_n (pc := 27) K dX12_works_27 0 rfl ?_
        refine gX12_gameMove (pc := 28) K hy (by decide) jn_X12 (List.mem_cons_of_mem _ jl_X12_69) dX12_works_28 ?_
        refine v_iload_n (pc := 31) K dX12_works_31 2 rfl ?_
        refine v_iconst (pc := 32) (v := -1) K dX12_works_32 rfl ?_
        refine uX12_gameMove (pc := 33) K hy (by decide) hF dX12_works_33 (fun hi5 hF => ?_)
        refine v_nmM hF (fun M6 hF => ?_)
        refine v_aload_n (pc := 34) K dX12_works_34 0 rfl ?_
        refine gX12_endsOf (pc := 35) K hy (by decide) jn_X12 (List.mem_cons_of_mem _ jl_X12_72) dX12_works_35 ?_
        refine v_iload_n (pc := 38) K dX12_works_38 2 rfl ?_
        refine v_iconst (pc := 39) (v := 0) K dX12_works_39 rfl ?_
        refine uX12_endsOf (pc := 40) K hy (by decide) hF dX12_works_40 (fun hi7 hF => ?_)
        refine v_nmM hF (fun M8 hF => ?_)
        refine v_aload_n (pc := 41) K dX12_works_41 0 rfl ?_
        refine gX12_waysOf (pc := 42) K hy (by decide) jn_X12 (List.mem_cons_of_mem _ jl_X12_75) dX12_works_42 ?_
        refine v_iload_n (pc := 45) K dX12_works_45 2 rfl ?_
        refine v_lconst (pc := 46) (v := 0) K dX12_works_46 rfl ?_
        refine uX12_waysOf (pc := 47) K hy (by decide) hF dX12_works_47 (fun hi9 hF => ?_)
        refine v_nmM hF (fun M10 hF => ?_)
        refine v_aload_n (pc := 48) K dX12_works_48 0 rfl ?_
        refine gX12_briefOf (pc := 49) K hy (by decide) jn_X12 (List.mem_cons_of_mem _ jl_X12_79) dX12_works_49 ?_
        refine v_iload_n (pc := 52) K dX12_works_52 2 rfl ?_
        refine v_bipush (pc := 53) (v := 99) K dX12_works_53 rfl ?_
        refine uX12_briefOf (pc := 55) K hy (by decide) hF dX12_works_55 (fun hi11 hF => ?_)
        refine v_nmM hF (fun M12 hF => ?_)
        refine v_aload_n (pc := 56) K dX12_works_56 0 rfl ?_
        refine v_iload_n (pc := 57) K dX12_works_57 2 rfl ?_
        obtain ⟨M15, hc13, hF⟩ := q_bvE hF
        refine v_callV (pc := 58) (ci := 11) (As := [.int x2]) (rest := []) (st' := []) (r := none) (M1 := M15) K (kX12_goTo l K.2.2.2.2.2.2.1 hy hc13) (jg_V jl_X12_361 jw_i_X12_goTo jw_s_X12_goTo jw_n_X12 jw_c_X12_goTo) rfl rfl rfl jd_X12_goTo ⟨Nat.le_of_ble_eq_true rfl, Nat.le_of_ble_eq_true rfl⟩ rfl rfl (Nat.le_of_ble_eq_true rfl) (by decide) (okc_1 hy) rfl dX12_works_58 rfl ?_
        refine v_aload_n (pc := 61) K dX12_works_61 0 rfl ?_
        refine gX12_turn (pc := 62) K hy (by decide) jn_X12 (List.mem_cons_of_mem _ jl_X12_338) dX12_works_62 ?_
        refine v_istore_n (pc := 65) (lv' := [(3, .int (q_i M15 1000 31)), (0, .ref (ly_o y 1000)), (1, .int x1), (2, .int x2)]) K dX12_works_65 3 rfl (by decide) rfl ?_
        refine v_iconst (pc := 66) (v := 0) K dX12_works_66 rfl ?_
        refine v_istore (pc := 67) (lv' := [(4, .int (0 : Int32)), (3, .int (q_i M15 1000 31)), (0, .ref (ly_o y 1000)), (1, .int x1), (2, .int x2)]) K 4 dX12_works_67 (by decide) rfl ?_
        refine v_sub [2, 3, 4, 1, 0] rfl ?_
        exact bX12_works_69 l K hy hQ ih q_F hF
      · refine v_goto (pc := 24) (tgt := 325) K dX12_works_24 (by decide) ?_
        exact bX12_works_325 l K hy hQ ih hF
def fX12_works (M : QM) (x1 : Int32) : Option QM := (q_bv (fX12_spreads M) fun M3 => (fX12_works_b8 q_F M3 x1 (1536 : Int32)))
set_option maxRecDepth 100000 in
set_option maxHeartbeats 4000000 in
theorem bX12_works_0 {x : Cx} {y : Ly} (l : Launch) (K : VK x l rmX12_works y 8 cX12_works RX12 wqX12_works) (hy : y.2.2.2.2 = 1) {z : QM} (hQ : VQ x y none z none) {M : QM} {x1 : Int32} (hF : fX12_works M x1 = some z) : V x y 8 M 0 [(0, .ref (ly_o y 1000)), (1, .int x1)] [] := by
  unfold fX12_works at hF
  refine v_aload_n (pc := 0) K dX12_works_0 0 rfl ?_
  obtain ⟨M3, hc1, hF⟩ := q_bvE hF
  refine v_callV (pc := 1) (ci := 11) (As := []) (rest := []) (st' := []) (r := none) (M1 := M3) K (kX12_spreads l K.2.2.2.2.2.2.1 hy hc1) (jg_V jl_X12_374 jw_i_X12_spreads jw_s_X12_spreads jw_n_X12 jw_c_X12_spreads) rfl rfl rfl jd_X12_spreads ⟨Nat.le_of_ble_eq_true rfl, Nat.le_of_ble_eq_true rfl⟩ rfl rfl (Nat.le_of_ble_eq_true rfl) (by decide) (okc_1 hy) rfl dX12_works_1 rfl ?_
  refine v_sipush (pc := 4) (v := 1536) K dX12_works_4 rfl ?_
  refine v_istore_n (pc := 7) (lv' := [(2, .int (1536 : Int32)), (0, .ref (ly_o y 1000)), (1, .int x1)]) K dX12_works_7 2 rfl (by decide) rfl ?_
  refine v_sub [1, 2, 0] rfl ?_
  exact bX12_works_8 l K hy hQ q_F hF
set_option maxRecDepth 100000 in
set_option maxHeartbeats 4000000 in
theorem kX12_works (l : Launch) {y : Ly} (hJ : ly_J y) (hy : y.2.2.2.2 = 1) {M M1 : QM} {x1 : Int32} (hF : fX12_works M x1 = some M1) : Met l yX12_works wqX12_works rmX12_works (q_P y [.ref (ly_o y 1000), .int x1] M) (q_E y none M1) 0 0 (ly_A y) :=
  q_met (by decide) rfl hJ rfl rfl rfl (fun x K hQ => bX12_works_0 l K hy (z := M1) hQ  hF)
-- ===== X12_plays ()I
theorem jd_X12_plays : yX12_plays.cls = RX12 ∧ yX12_plays.cls ≠ "java/lang/invoke/MethodHandle" ∧ yX12_plays.cls ≠ "java/lang/invoke/VarHandle" ∧ (parseMethodDescriptor yX12_plays.desc).map (fun d => d.parameters.length) = some 0 := by decide +kernel
abbrev wqX12_plays : List Cond := .code yX12_plays cX12_plays 2 (some .int) :: wsL_law
abbrev rmX12_plays : Room := { frames := 7, cells := 0, slots := 0, locals := 175 }
def fX12_plays (M : QM) : Option (Int32 × QM) := if (q_i M 1000 34) ≤ (0 : Int32) then (q_b (fX12_place M) fun r2 M3 => (q_bv (fX12_forgets M3) fun M6 => (if q_in r2 13824 then (q_t (p_a M6 1000 36 r2.toNatClampNeg (vp_nar .boolean (1 : Int32))) fun M8 => (q_bv (fX12_works M8 (-1 : Int32)) fun M11 => (if q_in r2 13824 then some (q_a M11 1000 37 r2.toNatClampNeg, M11) else none))) else none))) else (q_b (fX12_outcome M) fun r14 M15 => some (r14, M15))
set_option maxRecDepth 100000 in
set_option maxHeartbeats 4000000 in
theorem bX12_plays_0 {x : Cx} {y : Ly} (l : Launch) (K : VK x l rmX12_plays y 2 cX12_plays RX12 wqX12_plays) (hy : y.2.2.2.2 = 1) {z : Int32 × QM} (hQ : VQ x y (some (.int z.1)) z.2 (some .int)) {M : QM} (hF : fX12_plays M  = some z) : V x y 2 M 0 [(0, .ref (ly_o y 1000))] [] := by
  unfold fX12_plays at hF
  refine v_aload_n (pc := 0) K dX12_plays_0 0 rfl ?_
  refine gX12_ended (pc := 1) K hy (by decide) jn_X12 (List.mem_cons_of_mem _ jl_X12_347) dX12_plays_1 ?_
  refine v_if_le (pc := 4) (tgt := 12) K dX12_plays_4 (by decide) hF (fun c16 hF => ?_) (fun c16 hF => ?_)
  · refine v_aload_n (pc := 12) K dX12_plays_12 0 rfl ?_
    obtain ⟨r2, M3, hc1, hF⟩ := q_bE hF
    refine v_callV (pc := 13) (ci := 11) (As := []) (rest := []) (st' := [.int r2]) (r := some (.int r2)) (M1 := M3) K (kX12_place l K.2.2.2.2.2.2.1 hy hc1) (jg_V jl_X12_371 jw_i_X12_place jw_s_X12_place jw_n_X12 jw_c_X12_place) rfl rfl rfl jd_X12_place ⟨Nat.le_of_ble_eq_true rfl, Nat.le_of_ble_eq_true rfl⟩ rfl rfl (Nat.le_of_ble_eq_true rfl) (by decide) (okc_1 hy) rfl dX12_plays_13 rfl ?_
    refine v_istore_n (pc := 16) (lv' := [(1, .int r2), (0, .ref (ly_o y 1000))]) K dX12_plays_16 1 rfl (by decide) rfl ?_
    refine v_aload_n (pc := 17) K dX12_plays_17 1 rfl ?_
    obtain ⟨M6, hc4, hF⟩ := q_bvE hF
    refine v_callV (pc := 18) (ci := 11) (As := []) (rest := []) (st' := []) (r := none) (M1 := M6) K (kX12_forgets l K.2.2.2.2.2.2.1 hy hc4) (jg_V jl_X12_383 jw_i_X12_forgets jw_s_X12_forgets jw_n_X12 jw_c_X12_forgets) rfl rfl rfl jd_X12_forgets ⟨Nat.le_of_ble_eq_true rfl, Nat.le_of_ble_eq_true rfl⟩ rfl rfl (Nat.le_of_ble_eq_true rfl) (by decide) (okc_1 hy) rfl dX12_plays_18 rfl ?_
    refine v_aload_n (pc := 21) K dX12_plays_21 1 rfl ?_
    refine gX12_comes (pc := 22) K hy (by decide) jn_X12 (List.mem_cons_of_mem _ jl_X12_62) dX12_plays_22 ?_
    refine v_iload_n (pc := 25) K dX12_plays_25 0 rfl ?_
    refine v_iconst (pc := 26) (v := 1) K dX12_plays_26 rfl ?_
    refine uX12_comes (pc := 27) K hy (by decide) hF dX12_plays_27 (fun hi7 hF => ?_)
    refine v_nmM hF (fun M8 hF => ?_)
    refine v_aload_n (pc := 28) K dX12_plays_28 1 rfl ?_
    refine v_iconst (pc := 29) (v := -1) K dX12_plays_29 rfl ?_
    obtain ⟨M11, hc9, hF⟩ := q_bvE hF
    refine v_callV (pc := 30) (ci := 11) (As := [.int (-1 : Int32)]) (rest := []) (st' := []) (r := none) (M1 := M11) K (kX12_works l K.2.2.2.2.2.2.1 hy hc9) (jg_V jl_X12_386 jw_i_X12_works jw_s_X12_works jw_n_X12 jw_c_X12_works) rfl rfl rfl jd_X12_works ⟨Nat.le_of_ble_eq_true rfl, Nat.le_of_ble_eq_true rfl⟩ rfl rfl (Nat.le_of_ble_eq_true rfl) (by decide) (okc_1 hy) rfl dX12_plays_30 rfl ?_
    refine v_aload_n (pc := 33) K dX12_plays_33 1 rfl ?_
    refine gX12_gameOf (pc := 34) K hy (by decide) jn_X12 (List.mem_cons_of_mem _ jl_X12_66) dX12_plays_34 ?_
    refine v_iload_n (pc := 37) K dX12_plays_37 0 rfl ?_
    refine iX12_gameOf (pc := 38) K hy (by decide) hF dX12_plays_38 (fun hi12 hF => ?_)
    have hz := (Option.some.inj hF).symm
    subst hz
    exact v_iret (pc := 39) K hQ dX12_plays_39
  · refine v_aload_n (pc := 7) K dX12_plays_7 0 rfl ?_
    obtain ⟨r14, M15, hc13, hF⟩ := q_bE hF
    refine v_callV (pc := 8) (ci := 11) (As := []) (rest := []) (st' := [.int r14]) (r := some (.int r14)) (M1 := M15) K (kX12_outcome l K.2.2.2.2.2.2.1 hy hc13) (jg_V jl_X12_377 jw_i_X12_outcome jw_s_X12_outcome jw_n_X12 jw_c_X12_outcome) rfl rfl rfl jd_X12_outcome ⟨Nat.le_of_ble_eq_true rfl, Nat.le_of_ble_eq_true rfl⟩ rfl rfl (Nat.le_of_ble_eq_true rfl) (by decide) (okc_1 hy) rfl dX12_plays_8 rfl ?_
    have hz := (Option.some.inj hF).symm
    subst hz
    exact v_iret (pc := 11) K hQ dX12_plays_11
set_option maxRecDepth 100000 in
set_option maxHeartbeats 4000000 in
theorem kX12_plays (l : Launch) {y : Ly} (hJ : ly_J y) (hy : y.2.2.2.2 = 1) {M M1 : QM} {r : Int32} (hF : fX12_plays M  = some (r, M1)) : Met l yX12_plays wqX12_plays rmX12_plays (q_P y [.ref (ly_o y 1000)] M) (q_E y (some (.int r)) M1) 0 0 (ly_A y) :=
  q_met (by decide) rfl hJ rfl rfl rfl (fun x K hQ => bX12_plays_0 l K hy (z := (r, M1)) hQ  hF)
-- ===== X12_isQuarrel (I)Z
theorem jd_X12_isQuarrel : yX12_isQuarrel.cls = RX12 ∧ yX12_isQuarrel.cls ≠ "java/lang/invoke/MethodHandle" ∧ yX12_isQuarrel.cls ≠ "java/lang/invoke/VarHandle" ∧ (parseMethodDescriptor yX12_isQuarrel.desc).map (fun d => d.parameters.length) = some 1 := by decide +kernel
abbrev wqX12_isQuarrel : List Cond := .code yX12_isQuarrel cX12_isQuarrel 2 (some .boolean) :: wsL_law
abbrev rmX12_isQuarrel : Room := { frames := 0, cells := 0, slots := 0, locals := 0 }
def fX12_isQuarrel (M : QM) (x1 : Int32) : Option (Int32 × QM) := if x1 < (0 : Int32) then some ((0 : Int32), M) else if (q_i M 1000 42) ≤ x1 then some ((0 : Int32), M) else some ((1 : Int32), M)
set_option maxRecDepth 100000 in
set_option maxHeartbeats 4000000 in
theorem bX12_isQuarrel_0 {x : Cx} {y : Ly} (l : Launch) (K : VK x l rmX12_isQuarrel y 2 cX12_isQuarrel RX12 wqX12_isQuarrel) (hy : y.2.2.2.2 = 1) {z : Int32 × QM} (hQ : VQ x y (some (.int z.1)) z.2 (some .boolean)) {M : QM} {x1 : Int32} (hF : fX12_isQuarrel M x1 = some z) : V x y 2 M 0 [(0, .ref (ly_o y 1000)), (1, .int x1)] [] := by
  unfold fX12_isQuarrel at hF
  refine v_iload_n (pc := 0) K dX12_isQuarrel_0 1 rfl ?_
  refine v_if_lt (pc := 1) (tgt := 16) K dX12_isQuarrel_1 (by decide) hF (fun c2 hF => ?_) (fun c2 hF => ?_)
  · refine v_iconst (pc := 16) (v := 0) K dX12_isQuarrel_16 rfl ?_
    have hz := (Option.some.inj hF).symm
    subst hz
    exact v_zret (pc := 17) K hQ rfl dX12_isQuarrel_17
  · refine v_iload_n (pc := 4) K dX12_isQuarrel_4 1 rfl ?_
    refine v_aload_n (pc := 5) K dX12_isQuarrel_5 0 rfl ?_
    refine gX12_quarrels (pc := 6) K hy (by decide) jn_X12 (List.mem_cons_of_mem _ jl_X12_389) dX12_isQuarrel_6 ?_
    refine v_icmp_ge (pc := 9) (tgt := 16) K dX12_isQuarrel_9 (by decide) hF (fun c1 hF => ?_) (fun c1 hF => ?_)
    · refine v_iconst (pc := 16) (v := 0) K dX12_isQuarrel_16 rfl ?_
      have hz := (Option.some.inj hF).symm
      subst hz
      exact v_zret (pc := 17) K hQ rfl dX12_isQuarrel_17
    · refine v_iconst (pc := 12) (v := 1) K dX12_isQuarrel_12 rfl ?_
      refine v_goto (pc := 13) (tgt := 17) K dX12_isQuarrel_13 (by decide) ?_
      have hz := (Option.some.inj hF).symm
      subst hz
      exact v_zret (pc := 17) K hQ rfl dX12_isQuarrel_17
set_option maxRecDepth 100000 in
set_option maxHeartbeats 4000000 in
theorem kX12_isQuarrel (l : Launch) {y : Ly} (hJ : ly_J y) (hy : y.2.2.2.2 = 1) {M M1 : QM} {r : Int32} {x1 : Int32} (hF : fX12_isQuarrel M x1 = some (r, M1)) : Met l yX12_isQuarrel wqX12_isQuarrel rmX12_isQuarrel (q_P y [.ref (ly_o y 1000), .int x1] M) (q_E y (some (.int r)) M1) 0 0 (ly_A y) :=
  q_met (by decide) rfl hJ rfl rfl rfl (fun x K hQ => bX12_isQuarrel_0 l K hy (z := (r, M1)) hQ  hF)
-- ===== X12_party (I)V
theorem jd_X12_party : yX12_party.cls = RX12 ∧ yX12_party.cls ≠ "java/lang/invoke/MethodHandle" ∧ yX12_party.cls ≠ "java/lang/invoke/VarHandle" ∧ (parseMethodDescriptor yX12_party.desc).map (fun d => d.parameters.length) = some 1 := by decide +kernel
abbrev wqX12_party : List Cond := .code yX12_party cX12_party 3 none :: wsL_law
abbrev rmX12_party : Room := { frames := 1, cells := 0, slots := 0, locals := 25 }
def fX12_party (M : QM) (x1 : Int32) : Option QM := (if q_in ((64 : Int32) * x1) 1536 then (if q_in (((64 : Int32) * x1) + (1 : Int32)) 1536 then (if q_in (((64 : Int32) * x1) + (2 : Int32)) 1536 then (if q_in (((64 : Int32) * x1) + (3 : Int32)) 1536 then (if q_in (((64 : Int32) * x1) + (4 : Int32)) 1536 then (q_bv (fX12_meets M (q_a M 1000 43 ((64 : Int32) * x1).toNatClampNeg) (q_a M 1000 43 (((64 : Int32) * x1) + (1 : Int32)).toNatClampNeg) (q_a M 1000 43 (((64 : Int32) * x1) + (2 : Int32)).toNatClampNeg) (q_a M 1000 43 (((64 : Int32) * x1) + (3 : Int32)).toNatClampNeg) (q_a M 1000 43 (((64 : Int32) * x1) + (4 : Int32)).toNatClampNeg)) fun M8 => some M8) else none) else none) else none) else none) else none)
set_option maxRecDepth 100000 in
set_option maxHeartbeats 4000000 in
theorem bX12_party_0 {x : Cx} {y : Ly} (l : Launch) (K : VK x l rmX12_party y 3 cX12_party RX12 wqX12_party) (hy : y.2.2.2.2 = 1) {z : QM} (hQ : VQ x y none z none) {M : QM} {x1 : Int32} (hF : fX12_party M x1 = some z) : V x y 3 M 0 [(0, .ref (ly_o y 1000)), (1, .int x1)] [] := by
  unfold fX12_party at hF
  refine v_bipush (pc := 0) (v := 64) K dX12_party_0 rfl ?_
  refine v_iload_n (pc := 2) K dX12_party_2 1 rfl ?_
  refine v_imul (pc := 3) K dX12_party_3 ?_
  refine v_istore_n (pc := 4) (lv' := [(2, .int ((64 : Int32) * x1)), (0, .ref (ly_o y 1000)), (1, .int x1)]) K dX12_party_4 2 rfl (by decide) rfl ?_
  refine v_aload_n (pc := 5) K dX12_party_5 1 rfl ?_
  refine v_aload_n (pc := 6) K dX12_party_6 1 rfl ?_
  refine gX12_told (pc := 7) K hy (by decide) jn_X12 (List.mem_cons_of_mem _ jl_X12_82) dX12_party_7 ?_
  refine v_iload_n (pc := 10) K dX12_party_10 0 rfl ?_
  refine iX12_told (pc := 11) K hy (by decide) hF dX12_party_11 (fun hi1 hF => ?_)
  refine v_aload_n (pc := 12) K dX12_party_12 1 rfl ?_
  refine gX12_told (pc := 13) K hy (by decide) jn_X12 (List.mem_cons_of_mem _ jl_X12_82) dX12_party_13 ?_
  refine v_iload_n (pc := 16) K dX12_party_16 0 rfl ?_
  refine v_iconst (pc := 17) (v := 1) K dX12_party_17 rfl ?_
  refine v_iadd (pc := 18) K dX12_party_18 ?_
  refine iX12_told (pc := 19) K hy (by decide) hF dX12_party_19 (fun hi2 hF => ?_)
  refine v_aload_n (pc := 20) K dX12_party_20 1 rfl ?_
  refine gX12_told (pc := 21) K hy (by decide) jn_X12 (List.mem_cons_of_mem _ jl_X12_82) dX12_party_21 ?_
  refine v_iload_n (pc := 24) K dX12_party_24 0 rfl ?_
  refine v_iconst (pc := 25) (v := 2) K dX12_party_25 rfl ?_
  refine v_iadd (pc := 26) K dX12_party_26 ?_
  refine iX12_told (pc := 27) K hy (by decide) hF dX12_party_27 (fun hi3 hF => ?_)
  refine v_aload_n (pc := 28) K dX12_party_28 1 rfl ?_
  refine gX12_told (pc := 29) K hy (by decide) jn_X12 (List.mem_cons_of_mem _ jl_X12_82) dX12_party_29 ?_
  refine v_iload_n (pc := 32) K dX12_party_32 0 rfl ?_
  refine v_iconst (pc := 33) (v := 3) K dX12_party_33 rfl ?_
  refine v_iadd (pc := 34) K dX12_party_34 ?_
  refine iX12_told (pc := 35) K hy (by decide) hF dX12_party_35 (fun hi4 hF => ?_)
  refine v_aload_n (pc := 36) K dX12_party_36 1 rfl ?_
  refine gX12_told (pc := 37) K hy (by decide) jn_X12 (List.mem_cons_of_mem _ jl_X12_82) dX12_party_37 ?_
  refine v_iload_n (pc := 40) K dX12_party_40 0 rfl ?_
  refine v_iconst (pc := 41) (v := 4) K dX12_party_41 rfl ?_
  refine v_iadd (pc := 42) K dX12_party_42 ?_
  refine iX12_told (pc := 43) K hy (by decide) hF dX12_party_43 (fun hi5 hF => ?_)
  obtain ⟨M8, hc6, hF⟩ := q_bvE hF
  refine v_callV (pc := 44) (ci := 11) (As := [.int (q_a M 1000 43 ((64 : Int32) * x1).toNatClampNeg), .int (q_a M 1000 43 (((64 : Int32) * x1) + (1 : Int32)).toNatClampNeg), .int (q_a M 1000 43 (((64 : Int32) * x1) + (2 : Int32)).toNatClampNeg), .int (q_a M 1000 43 (((64 : Int32) * x1) + (3 : Int32)).toNatClampNeg), .int (q_a M 1000 43 (((64 : Int32) * x1) + (4 : Int32)).toNatClampNeg)]) (rest := []) (st' := []) (r := none) (M1 := M8) K (kX12_meets l K.2.2.2.2.2.2.1 hy hc6) (jg_V jl_X12_392 jw_i_X12_meets jw_s_X12_meets jw_n_X12 jw_c_X12_meets) rfl rfl rfl jd_X12_meets ⟨Nat.le_of_ble_eq_true rfl, Nat.le_of_ble_eq_true rfl⟩ rfl rfl (Nat.le_of_ble_eq_true rfl) (by decide) (okc_1 hy) rfl dX12_party_44 rfl ?_
  have hz := (Option.some.inj hF).symm
  subst hz
  exact v_vret (pc := 47) K hQ dX12_party_47
set_option maxRecDepth 100000 in
set_option maxHeartbeats 4000000 in
theorem kX12_party (l : Launch) {y : Ly} (hJ : ly_J y) (hy : y.2.2.2.2 = 1) {M M1 : QM} {x1 : Int32} (hF : fX12_party M x1 = some M1) : Met l yX12_party wqX12_party rmX12_party (q_P y [.ref (ly_o y 1000), .int x1] M) (q_E y none M1) 0 0 (ly_A y) :=
  q_met (by decide) rfl hJ rfl rfl rfl (fun x K hQ => bX12_party_0 l K hy (z := M1) hQ  hF)
-- ===== X12_load (II)V
theorem jd_X12_load : yX12_load.cls = RX12 ∧ yX12_load.cls ≠ "java/lang/invoke/MethodHandle" ∧ yX12_load.cls ≠ "java/lang/invoke/VarHandle" ∧ (parseMethodDescriptor yX12_load.desc).map (fun d => d.parameters.length) = some 2 := by decide +kernel
abbrev wqX12_load : List Cond := .code yX12_load cX12_load 5 none :: wsL_law
abbrev rmX12_load : Room := { frames := 2, cells := 0, slots := 0, locals := 47 }
def fX12_load_b150 (M : QM) (s0 : Int32) : Option QM := (q_t (p_i M 1000 35 s0) fun M29 => some M29)
set_option maxRecDepth 100000 in
set_option maxHeartbeats 4000000 in
theorem bX12_load_150 {x : Cx} {y : Ly} (l : Launch) (K : VK x l rmX12_load y 5 cX12_load RX12 wqX12_load) (hy : y.2.2.2.2 = 1) {z : QM} (hQ : VQ x y none z none) {M : QM} {s0 : Int32} (hF : fX12_load_b150 M s0 = some z) : V x y 5 M 150 [] [.int s0, .ref (ly_o y 1000)] := by
  unfold fX12_load_b150 at hF
  refine pX12_less (pc := 150) K hy (by decide) jn_X12 (List.mem_cons_of_mem _ jl_X12_350) dX12_load_150 ?_
  refine v_nmM hF (fun M29 hF => ?_)
  have hz := (Option.some.inj hF).symm
  subst hz
  exact v_vret (pc := 153) K hQ dX12_load_153
def fX12_load_b125 (M : QM) (x1 : Int32) (x4 : Int32) (s0 : Int32) : Option QM := (q_t (p_i M 1000 34 s0) fun M26 => if x4 = (0 : Int32) then (fX12_load_b150 M26 (0 : Int32)) else (if q_in (((64 : Int32) * x1) + (7 : Int32)) 1536 then (fX12_load_b150 M26 (q_a M26 1000 43 (((64 : Int32) * x1) + (7 : Int32)).toNatClampNeg)) else none))
set_option maxRecDepth 100000 in
set_option maxHeartbeats 4000000 in
theorem bX12_load_125 {x : Cx} {y : Ly} (l : Launch) (K : VK x l rmX12_load y 5 cX12_load RX12 wqX12_load) (hy : y.2.2.2.2 = 1) {z : QM} (hQ : VQ x y none z none) {M : QM} {x1 : Int32} {x4 : Int32} {s0 : Int32} (hF : fX12_load_b125 M x1 x4 s0 = some z) : V x y 5 M 125 [(0, .ref (ly_o y 1000)), (1, .int x1), (4, .int x4)] [.int s0, .ref (ly_o y 1000)] := by
  unfold fX12_load_b125 at hF
  refine pX12_ended (pc := 125) K hy (by decide) jn_X12 (List.mem_cons_of_mem _ jl_X12_347) dX12_load_125 ?_
  refine v_nmM hF (fun M26 hF => ?_)
  refine v_aload_n (pc := 128) K dX12_load_128 0 rfl ?_
  refine v_iload (pc := 129) K dX12_load_129 2 rfl ?_
  refine v_if_eq (pc := 131) (tgt := 149) K dX12_load_131 (by decide) hF (fun c28 hF => ?_) (fun c28 hF => ?_)
  · refine v_iconst (pc := 149) (v := 0) K dX12_load_149 rfl ?_
    refine v_sub [] rfl ?_
    exact bX12_load_150 l K hy hQ hF
  · refine v_aload_n (pc := 134) K dX12_load_134 0 rfl ?_
    refine gX12_told (pc := 135) K hy (by decide) jn_X12 (List.mem_cons_of_mem _ jl_X12_82) dX12_load_135 ?_
    refine v_bipush (pc := 138) (v := 64) K dX12_load_138 rfl ?_
    refine v_iload_n (pc := 140) K dX12_load_140 1 rfl ?_
    refine v_imul (pc := 141) K dX12_load_141 ?_
    refine v_bipush (pc := 142) (v := 7) K dX12_load_142 rfl ?_
    refine v_iadd (pc := 144) K dX12_load_144 ?_
    refine iX12_told (pc := 145) K hy (by decide) hF dX12_load_145 (fun hi27 hF => ?_)
    refine v_goto (pc := 146) (tgt := 150) K dX12_load_146 (by decide) ?_
    refine v_sub [] rfl ?_
    exact bX12_load_150 l K hy hQ hF
def fX12_load_b101 (M : QM) (x1 : Int32) (s0 : Int32) : Option QM := if s0 = (0 : Int32) then (fX12_load_b125 M x1 s0 (0 : Int32)) else (if q_in (((64 : Int32) * x1) + (6 : Int32)) 1536 then (fX12_load_b125 M x1 s0 (q_a M 1000 43 (((64 : Int32) * x1) + (6 : Int32)).toNatClampNeg)) else none)
set_option maxRecDepth 100000 in
set_option maxHeartbeats 4000000 in
theorem bX12_load_101 {x : Cx} {y : Ly} (l : Launch) (K : VK x l rmX12_load y 5 cX12_load RX12 wqX12_load) (hy : y.2.2.2.2 = 1) {z : QM} (hQ : VQ x y none z none) {M : QM} {x1 : Int32} {s0 : Int32} (hF : fX12_load_b101 M x1 s0 = some z) : V x y 5 M 101 [(0, .ref (ly_o y 1000)), (1, .int x1)] [.int s0] := by
  unfold fX12_load_b101 at hF
  refine v_istore (pc := 101) (lv' := [(4, .int s0), (0, .ref (ly_o y 1000)), (1, .int x1)]) K 4 dX12_load_101 (by decide) rfl ?_
  refine v_aload_n (pc := 103) K dX12_load_103 1 rfl ?_
  refine v_iload (pc := 104) K dX12_load_104 0 rfl ?_
  refine v_if_eq (pc := 106) (tgt := 124) K dX12_load_106 (by decide) hF (fun c25 hF => ?_) (fun c25 hF => ?_)
  · refine v_iconst (pc := 124) (v := 0) K dX12_load_124 rfl ?_
    refine v_sub [1, 2, 0] rfl ?_
    exact bX12_load_125 l K hy hQ hF
  · refine v_aload_n (pc := 109) K dX12_load_109 1 rfl ?_
    refine gX12_told (pc := 110) K hy (by decide) jn_X12 (List.mem_cons_of_mem _ jl_X12_82) dX12_load_110 ?_
    refine v_bipush (pc := 113) (v := 64) K dX12_load_113 rfl ?_
    refine v_iload_n (pc := 115) K dX12_load_115 2 rfl ?_
    refine v_imul (pc := 116) K dX12_load_116 ?_
    refine v_bipush (pc := 117) (v := 6) K dX12_load_117 rfl ?_
    refine v_iadd (pc := 119) K dX12_load_119 ?_
    refine iX12_told (pc := 120) K hy (by decide) hF dX12_load_120 (fun hi24 hF => ?_)
    refine v_goto (pc := 121) (tgt := 125) K dX12_load_121 (by decide) ?_
    refine v_sub [1, 2, 0] rfl ?_
    exact bX12_load_125 l K hy hQ hF
def fX12_load (M : QM) (x1 : Int32) (x2 : Int32) : Option QM := (q_bv (fX12_party M x1) fun M3 => (if q_in ((((64 : Int32) * x1) + (17 : Int32)) + ((5 : Int32) * x2)) 1536 then (q_t (q_a M3 1000 43 ((((64 : Int32) * x1) + (17 : Int32)) + ((5 : Int32) * x2)).toNatClampNeg) fun v5 => (if q_in (0 : Int32) 2 then (q_t (p_a M3 1000 30 (0 : Int32).toNatClampNeg v5) fun M7 => (q_t (((((64 : Int32) * x1) + (17 : Int32)) + ((5 : Int32) * x2)) + (1 : Int32)) fun v8 => (if q_in v8 1536 then (if q_in (1 : Int32) 2 then (q_t (p_a M7 1000 30 (1 : Int32).toNatClampNeg (q_a M7 1000 43 v8.toNatClampNeg)) fun M11 => (q_t (((((64 : Int32) * x1) + (17 : Int32)) + ((5 : Int32) * x2)) + (2 : Int32)) fun v12 => (if q_in v12 1536 then (q_t (p_i M11 1000 31 (q_a M11 1000 43 v12.toNatClampNeg)) fun M14 => (q_t (((((64 : Int32) * x1) + (17 : Int32)) + ((5 : Int32) * x2)) + (3 : Int32)) fun v15 => (if q_in v15 1536 then (q_t (p_i M14 1000 32 (q_a M14 1000 43 v15.toNatClampNeg)) fun M17 => (q_t (((((64 : Int32) * x1) + (17 : Int32)) + ((5 : Int32) * x2)) + (4 : Int32)) fun v18 => (if q_in v18 1536 then (q_t (p_i M17 1000 33 (q_a M17 1000 43 v18.toNatClampNeg)) fun M20 => (if q_in (((64 : Int32) * x1) + (5 : Int32)) 1536 then (q_t ((q_a M20 1000 43 (((64 : Int32) * x1) + (5 : Int32)).toNatClampNeg) - (1 : Int32)) fun v22 => if x2 ≠ v22 then (fX12_load_b101 M20 x1 (0 : Int32)) else (fX12_load_b101 M20 x1 (1 : Int32))) else none)) else none))) else none))) else none))) else none) else none))) else none)) else none))
set_option maxRecDepth 100000 in
set_option maxHeartbeats 4000000 in
theorem bX12_load_0 {x : Cx} {y : Ly} (l : Launch) (K : VK x l rmX12_load y 5 cX12_load RX12 wqX12_load) (hy : y.2.2.2.2 = 1) {z : QM} (hQ : VQ x y none z none) {M : QM} {x1 : Int32} {x2 : Int32} (hF : fX12_load M x1 x2 = some z) : V x y 5 M 0 [(0, .ref (ly_o y 1000)), (1, .int x1), (2, .int x2)] [] := by
  unfold fX12_load at hF
  refine v_aload_n (pc := 0) K dX12_load_0 0 rfl ?_
  refine v_iload_n (pc := 1) K dX12_load_1 1 rfl ?_
  obtain ⟨M3, hc1, hF⟩ := q_bvE hF
  refine v_callV (pc := 2) (ci := 11) (As := [.int x1]) (rest := []) (st' := []) (r := none) (M1 := M3) K (kX12_party l K.2.2.2.2.2.2.1 hy hc1) (jg_V jl_X12_396 jw_i_X12_party jw_s_X12_party jw_n_X12 jw_c_X12_party) rfl rfl rfl jd_X12_party ⟨Nat.le_of_ble_eq_true rfl, Nat.le_of_ble_eq_true rfl⟩ rfl rfl (Nat.le_of_ble_eq_true rfl) (by decide) (okc_1 hy) rfl dX12_load_2 rfl ?_
  refine v_bipush (pc := 5) (v := 64) K dX12_load_5 rfl ?_
  refine v_iload_n (pc := 7) K dX12_load_7 1 rfl ?_
  refine v_imul (pc := 8) K dX12_load_8 ?_
  refine v_bipush (pc := 9) (v := 17) K dX12_load_9 rfl ?_
  refine v_iadd (pc := 11) K dX12_load_11 ?_
  refine v_iconst (pc := 12) (v := 5) K dX12_load_12 rfl ?_
  refine v_iload_n (pc := 13) K dX12_load_13 2 rfl ?_
  refine v_imul (pc := 14) K dX12_load_14 ?_
  refine v_iadd (pc := 15) K dX12_load_15 ?_
  refine v_istore_n (pc := 16) (lv' := [(3, .int ((((64 : Int32) * x1) + (17 : Int32)) + ((5 : Int32) * x2))), (0, .ref (ly_o y 1000)), (1, .int x1), (2, .int x2)]) K dX12_load_16 3 rfl (by decide) rfl ?_
  refine v_aload_n (pc := 17) K dX12_load_17 1 rfl ?_
  refine gX12_owed (pc := 18) K hy (by decide) jn_X12 (List.mem_cons_of_mem _ jl_X12_59) dX12_load_18 ?_
  refine v_iconst (pc := 21) (v := 0) K dX12_load_21 rfl ?_
  refine v_aload_n (pc := 22) K dX12_load_22 1 rfl ?_
  refine gX12_told (pc := 23) K hy (by decide) jn_X12 (List.mem_cons_of_mem _ jl_X12_82) dX12_load_23 ?_
  refine v_iload_n (pc := 26) K dX12_load_26 0 rfl ?_
  refine iX12_told (pc := 27) K hy (by decide) hF dX12_load_27 (fun hi4 hF => ?_)
  refine v_nmI hF (fun v5 hF => ?_)
  refine uX12_owed (pc := 28) K hy (by decide) hF dX12_load_28 (fun hi6 hF => ?_)
  refine v_nmM hF (fun M7 hF => ?_)
  refine v_aload_n (pc := 29) K dX12_load_29 1 rfl ?_
  refine gX12_owed (pc := 30) K hy (by decide) jn_X12 (List.mem_cons_of_mem _ jl_X12_59) dX12_load_30 ?_
  refine v_iconst (pc := 33) (v := 1) K dX12_load_33 rfl ?_
  refine v_aload_n (pc := 34) K dX12_load_34 1 rfl ?_
  refine gX12_told (pc := 35) K hy (by decide) jn_X12 (List.mem_cons_of_mem _ jl_X12_82) dX12_load_35 ?_
  refine v_iload_n (pc := 38) K dX12_load_38 0 rfl ?_
  refine v_iconst (pc := 39) (v := 1) K dX12_load_39 rfl ?_
  refine v_iadd (pc := 40) K dX12_load_40 ?_
  refine v_nmI hF (fun v8 hF => ?_)
  refine iX12_told (pc := 41) K hy (by decide) hF dX12_load_41 (fun hi9 hF => ?_)
  refine uX12_owed (pc := 42) K hy (by decide) hF dX12_load_42 (fun hi10 hF => ?_)
  refine v_nmM hF (fun M11 hF => ?_)
  refine v_aload_n (pc := 43) K dX12_load_43 1 rfl ?_
  refine v_aload_n (pc := 44) K dX12_load_44 1 rfl ?_
  refine gX12_told (pc := 45) K hy (by decide) jn_X12 (List.mem_cons_of_mem _ jl_X12_82) dX12_load_45 ?_
  refine v_iload_n (pc := 48) K dX12_load_48 0 rfl ?_
  refine v_iconst (pc := 49) (v := 2) K dX12_load_49 rfl ?_
  refine v_iadd (pc := 50) K dX12_load_50 ?_
  refine v_nmI hF (fun v12 hF => ?_)
  refine iX12_told (pc := 51) K hy (by decide) hF dX12_load_51 (fun hi13 hF => ?_)
  refine pX12_turn (pc := 52) K hy (by decide) jn_X12 (List.mem_cons_of_mem _ jl_X12_338) dX12_load_52 ?_
  refine v_nmM hF (fun M14 hF => ?_)
  refine v_aload_n (pc := 55) K dX12_load_55 1 rfl ?_
  refine v_aload_n (pc := 56) K dX12_load_56 1 rfl ?_
  refine gX12_told (pc := 57) K hy (by decide) jn_X12 (List.mem_cons_of_mem _ jl_X12_82) dX12_load_57 ?_
  refine v_iload_n (pc := 60) K dX12_load_60 0 rfl ?_
  refine v_iconst (pc := 61) (v := 3) K dX12_load_61 rfl ?_
  refine v_iadd (pc := 62) K dX12_load_62 ?_
  refine v_nmI hF (fun v15 hF => ?_)
  refine iX12_told (pc := 63) K hy (by decide) hF dX12_load_63 (fun hi16 hF => ?_)
  refine pX12_asked (pc := 64) K hy (by decide) jn_X12 (List.mem_cons_of_mem _ jl_X12_344) dX12_load_64 ?_
  refine v_nmM hF (fun M17 hF => ?_)
  refine v_aload_n (pc := 67) K dX12_load_67 1 rfl ?_
  refine v_aload_n (pc := 68) K dX12_load_68 1 rfl ?_
  refine gX12_told (pc := 69) K hy (by decide) jn_X12 (List.mem_cons_of_mem _ jl_X12_82) dX12_load_69 ?_
  refine v_iload_n (pc := 72) K dX12_load_72 0 rfl ?_
  refine v_iconst (pc := 73) (v := 4) K dX12_load_73 rfl ?_
  refine v_iadd (pc := 74) K dX12_load_74 ?_
  refine v_nmI hF (fun v18 hF => ?_)
  refine iX12_told (pc := 75) K hy (by decide) hF dX12_load_75 (fun hi19 hF => ?_)
  refine pX12_left (pc := 76) K hy (by decide) jn_X12 (List.mem_cons_of_mem _ jl_X12_341) dX12_load_76 ?_
  refine v_nmM hF (fun M20 hF => ?_)
  refine v_iload_n (pc := 79) K dX12_load_79 3 rfl ?_
  refine v_aload_n (pc := 80) K dX12_load_80 1 rfl ?_
  refine gX12_told (pc := 81) K hy (by decide) jn_X12 (List.mem_cons_of_mem _ jl_X12_82) dX12_load_81 ?_
  refine v_bipush (pc := 84) (v := 64) K dX12_load_84 rfl ?_
  refine v_iload_n (pc := 86) K dX12_load_86 2 rfl ?_
  refine v_imul (pc := 87) K dX12_load_87 ?_
  refine v_iconst (pc := 88) (v := 5) K dX12_load_88 rfl ?_
  refine v_iadd (pc := 89) K dX12_load_89 ?_
  refine iX12_told (pc := 90) K hy (by decide) hF dX12_load_90 (fun hi21 hF => ?_)
  refine v_iconst (pc := 91) (v := 1) K dX12_load_91 rfl ?_
  refine v_isub (pc := 92) K dX12_load_92 ?_
  refine v_nmI hF (fun v22 hF => ?_)
  refine v_icmp_ne (pc := 93) (tgt := 100) K dX12_load_93 (by decide) hF (fun c23 hF => ?_) (fun c23 hF => ?_)
  · refine v_iconst (pc := 100) (v := 0) K dX12_load_100 rfl ?_
    refine v_sub [1, 2] rfl ?_
    exact bX12_load_101 l K hy hQ hF
  · refine v_iconst (pc := 96) (v := 1) K dX12_load_96 rfl ?_
    refine v_goto (pc := 97) (tgt := 101) K dX12_load_97 (by decide) ?_
    refine v_sub [1, 2] rfl ?_
    exact bX12_load_101 l K hy hQ hF
set_option maxRecDepth 100000 in
set_option maxHeartbeats 4000000 in
theorem kX12_load (l : Launch) {y : Ly} (hJ : ly_J y) (hy : y.2.2.2.2 = 1) {M M1 : QM} {x1 : Int32} {x2 : Int32} (hF : fX12_load M x1 x2 = some M1) : Met l yX12_load wqX12_load rmX12_load (q_P y [.ref (ly_o y 1000), .int x1, .int x2] M) (q_E y none M1) 0 0 (ly_A y) :=
  q_met (by decide) rfl hJ rfl rfl rfl (fun x K hQ => bX12_load_0 l K hy (z := M1) hQ  hF)
-- ===== X12_loadLast (I)V
theorem jd_X12_loadLast : yX12_loadLast.cls = RX12 ∧ yX12_loadLast.cls ≠ "java/lang/invoke/MethodHandle" ∧ yX12_loadLast.cls ≠ "java/lang/invoke/VarHandle" ∧ (parseMethodDescriptor yX12_loadLast.desc).map (fun d => d.parameters.length) = some 1 := by decide +kernel
abbrev wqX12_loadLast : List Cond := .code yX12_loadLast cX12_loadLast 2 none :: wsL_law
abbrev rmX12_loadLast : Room := { frames := 3, cells := 0, slots := 0, locals := 71 }
def fX12_loadLast (M : QM) (x1 : Int32) : Option QM := (if q_in (((64 : Int32) * x1) + (5 : Int32)) 1536 then (q_t ((q_a M 1000 43 (((64 : Int32) * x1) + (5 : Int32)).toNatClampNeg) - (1 : Int32)) fun v2 => (q_bv (fX12_load M x1 v2) fun M5 => some M5)) else none)
set_option maxRecDepth 100000 in
set_option maxHeartbeats 4000000 in
theorem bX12_loadLast_0 {x : Cx} {y : Ly} (l : Launch) (K : VK x l rmX12_loadLast y 2 cX12_loadLast RX12 wqX12_loadLast) (hy : y.2.2.2.2 = 1) {z : QM} (hQ : VQ x y none z none) {M : QM} {x1 : Int32} (hF : fX12_loadLast M x1 = some z) : V x y 2 M 0 [(0, .ref (ly_o y 1000)), (1, .int x1)] [] := by
  unfold fX12_loadLast at hF
  refine v_aload_n (pc := 0) K dX12_loadLast_0 0 rfl ?_
  refine v_iload_n (pc := 1) K dX12_loadLast_1 1 rfl ?_
  refine v_aload_n (pc := 2) K dX12_loadLast_2 0 rfl ?_
  refine gX12_told (pc := 3) K hy (by decide) jn_X12 (List.mem_cons_of_mem _ jl_X12_82) dX12_loadLast_3 ?_
  refine v_bipush (pc := 6) (v := 64) K dX12_loadLast_6 rfl ?_
  refine v_iload_n (pc := 8) K dX12_loadLast_8 1 rfl ?_
  refine v_imul (pc := 9) K dX12_loadLast_9 ?_
  refine v_iconst (pc := 10) (v := 5) K dX12_loadLast_10 rfl ?_
  refine v_iadd (pc := 11) K dX12_loadLast_11 ?_
  refine iX12_told (pc := 12) K hy (by decide) hF dX12_loadLast_12 (fun hi1 hF => ?_)
  refine v_iconst (pc := 13) (v := 1) K dX12_loadLast_13 rfl ?_
  refine v_isub (pc := 14) K dX12_loadLast_14 ?_
  refine v_nmI hF (fun v2 hF => ?_)
  obtain ⟨M5, hc3, hF⟩ := q_bvE hF
  refine v_callV (pc := 15) (ci := 11) (As := [.int x1, .int v2]) (rest := []) (st' := []) (r := none) (M1 := M5) K (kX12_load l K.2.2.2.2.2.2.1 hy hc3) (jg_V jl_X12_399 jw_i_X12_load jw_s_X12_load jw_n_X12 jw_c_X12_load) rfl rfl rfl jd_X12_load ⟨Nat.le_of_ble_eq_true rfl, Nat.le_of_ble_eq_true rfl⟩ rfl rfl (Nat.le_of_ble_eq_true rfl) (by decide) (okc_1 hy) rfl dX12_loadLast_15 rfl ?_
  have hz := (Option.some.inj hF).symm
  subst hz
  exact v_vret (pc := 18) K hQ dX12_loadLast_18
set_option maxRecDepth 100000 in
set_option maxHeartbeats 4000000 in
theorem kX12_loadLast (l : Launch) {y : Ly} (hJ : ly_J y) (hy : y.2.2.2.2 = 1) {M M1 : QM} {x1 : Int32} (hF : fX12_loadLast M x1 = some M1) : Met l yX12_loadLast wqX12_loadLast rmX12_loadLast (q_P y [.ref (ly_o y 1000), .int x1] M) (q_E y none M1) 0 0 (ly_A y) :=
  q_met (by decide) rfl hJ rfl rfl rfl (fun x K hQ => bX12_loadLast_0 l K hy (z := M1) hQ  hF)
-- ===== X12_writes (II)V
theorem jd_X12_writes : yX12_writes.cls = RX12 ∧ yX12_writes.cls ≠ "java/lang/invoke/MethodHandle" ∧ yX12_writes.cls ≠ "java/lang/invoke/VarHandle" ∧ (parseMethodDescriptor yX12_writes.desc).map (fun d => d.parameters.length) = some 2 := by decide +kernel
abbrev wqX12_writes : List Cond := .code yX12_writes cX12_writes 5 none :: wsL_law
abbrev rmX12_writes : Room := { frames := 0, cells := 0, slots := 0, locals := 0 }
def fX12_writes (M : QM) (x1 : Int32) (x2 : Int32) : Option QM := (if q_in (((64 : Int32) * x1) + (5 : Int32)) 1536 then (q_t ((5 : Int32) * (q_a M 1000 43 (((64 : Int32) * x1) + (5 : Int32)).toNatClampNeg)) fun v2 => (q_t ((((64 : Int32) * x1) + (8 : Int32)) + (q_a M 1000 43 (((64 : Int32) * x1) + (5 : Int32)).toNatClampNeg)) fun v3 => (if q_in v3 1536 then (q_t (p_a M 1000 43 v3.toNatClampNeg x2) fun M5 => (if q_in (0 : Int32) 2 then (if q_in ((((64 : Int32) * x1) + (17 : Int32)) + v2) 1536 then (q_t (p_a M5 1000 43 ((((64 : Int32) * x1) + (17 : Int32)) + v2).toNatClampNeg (q_a M5 1000 30 (0 : Int32).toNatClampNeg)) fun M8 => (if q_in (1 : Int32) 2 then (if q_in (((((64 : Int32) * x1) + (17 : Int32)) + v2) + (1 : Int32)) 1536 then (q_t (p_a M8 1000 43 (((((64 : Int32) * x1) + (17 : Int32)) + v2) + (1 : Int32)).toNatClampNeg (q_a M8 1000 30 (1 : Int32).toNatClampNeg)) fun M11 => (if q_in (((((64 : Int32) * x1) + (17 : Int32)) + v2) + (2 : Int32)) 1536 then (q_t (p_a M11 1000 43 (((((64 : Int32) * x1) + (17 : Int32)) + v2) + (2 : Int32)).toNatClampNeg (q_i M11 1000 31)) fun M13 => (if q_in (((((64 : Int32) * x1) + (17 : Int32)) + v2) + (3 : Int32)) 1536 then (q_t (p_a M13 1000 43 (((((64 : Int32) * x1) + (17 : Int32)) + v2) + (3 : Int32)).toNatClampNeg (q_i M13 1000 32)) fun M15 => (if q_in (((((64 : Int32) * x1) + (17 : Int32)) + v2) + (4 : Int32)) 1536 then (q_t (p_a M15 1000 43 (((((64 : Int32) * x1) + (17 : Int32)) + v2) + (4 : Int32)).toNatClampNeg (q_i M15 1000 33)) fun M17 => (q_t ((q_a M 1000 43 (((64 : Int32) * x1) + (5 : Int32)).toNatClampNeg) + (1 : Int32)) fun v18 => (if q_in (((64 : Int32) * x1) + (5 : Int32)) 1536 then (q_t (p_a M17 1000 43 (((64 : Int32) * x1) + (5 : Int32)).toNatClampNeg v18) fun M20 => (if q_in (((64 : Int32) * x1) + (6 : Int32)) 1536 then (q_t (p_a M20 1000 43 (((64 : Int32) * x1) + (6 : Int32)).toNatClampNeg (q_i M20 1000 34)) fun M22 => (if q_in (((64 : Int32) * x1) + (7 : Int32)) 1536 then (q_t (p_a M22 1000 43 (((64 : Int32) * x1) + (7 : Int32)).toNatClampNeg (q_i M22 1000 35)) fun M24 => some M24) else none)) else none)) else none))) else none)) else none)) else none)) else none) else none)) else none) else none)) else none))) else none)
set_option maxRecDepth 100000 in
set_option maxHeartbeats 4000000 in
theorem bX12_writes_0 {x : Cx} {y : Ly} (l : Launch) (K : VK x l rmX12_writes y 5 cX12_writes RX12 wqX12_writes) (hy : y.2.2.2.2 = 1) {z : QM} (hQ : VQ x y none z none) {M : QM} {x1 : Int32} {x2 : Int32} (hF : fX12_writes M x1 x2 = some z) : V x y 5 M 0 [(0, .ref (ly_o y 1000)), (1, .int x1), (2, .int x2)] [] := by
  unfold fX12_writes at hF
  refine v_aload_n (pc := 0) K dX12_writes_0 0 rfl ?_
  refine gX12_told (pc := 1) K hy (by decide) jn_X12 (List.mem_cons_of_mem _ jl_X12_82) dX12_writes_1 ?_
  refine v_bipush (pc := 4) (v := 64) K dX12_writes_4 rfl ?_
  refine v_iload_n (pc := 6) K dX12_writes_6 1 rfl ?_
  refine v_imul (pc := 7) K dX12_writes_7 ?_
  refine v_iconst (pc := 8) (v := 5) K dX12_writes_8 rfl ?_
  refine v_iadd (pc := 9) K dX12_writes_9 ?_
  refine iX12_told (pc := 10) K hy (by decide) hF dX12_writes_10 (fun hi1 hF => ?_)
  refine v_istore_n (pc := 11) (lv' := [(3, .int (q_a M 1000 43 (((64 : Int32) * x1) + (5 : Int32)).toNatClampNeg)), (0, .ref (ly_o y 1000)), (1, .int x1), (2, .int x2)]) K dX12_writes_11 3 rfl (by decide) rfl ?_
  refine v_bipush (pc := 12) (v := 64) K dX12_writes_12 rfl ?_
  refine v_iload_n (pc := 14) K dX12_writes_14 2 rfl ?_
  refine v_imul (pc := 15) K dX12_writes_15 ?_
  refine v_bipush (pc := 16) (v := 17) K dX12_writes_16 rfl ?_
  refine v_iadd (pc := 18) K dX12_writes_18 ?_
  refine v_iconst (pc := 19) (v := 5) K dX12_writes_19 rfl ?_
  refine v_iload_n (pc := 20) K dX12_writes_20 0 rfl ?_
  refine v_imul (pc := 21) K dX12_writes_21 ?_
  refine v_nmI hF (fun v2 hF => ?_)
  refine v_iadd (pc := 22) K dX12_writes_22 ?_
  refine v_istore (pc := 23) (lv' := [(4, .int ((((64 : Int32) * x1) + (17 : Int32)) + v2)), (3, .int (q_a M 1000 43 (((64 : Int32) * x1) + (5 : Int32)).toNatClampNeg)), (0, .ref (ly_o y 1000)), (1, .int x1), (2, .int x2)]) K 4 dX12_writes_23 (by decide) rfl ?_
  refine v_aload_n (pc := 25) K dX12_writes_25 2 rfl ?_
  refine gX12_told (pc := 26) K hy (by decide) jn_X12 (List.mem_cons_of_mem _ jl_X12_82) dX12_writes_26 ?_
  refine v_bipush (pc := 29) (v := 64) K dX12_writes_29 rfl ?_
  refine v_iload_n (pc := 31) K dX12_writes_31 3 rfl ?_
  refine v_imul (pc := 32) K dX12_writes_32 ?_
  refine v_bipush (pc := 33) (v := 8) K dX12_writes_33 rfl ?_
  refine v_iadd (pc := 35) K dX12_writes_35 ?_
  refine v_iload_n (pc := 36) K dX12_writes_36 1 rfl ?_
  refine v_iadd (pc := 37) K dX12_writes_37 ?_
  refine v_nmI hF (fun v3 hF => ?_)
  refine v_iload_n (pc := 38) K dX12_writes_38 4 rfl ?_
  refine uX12_told (pc := 39) K hy (by decide) hF dX12_writes_39 (fun hi4 hF => ?_)
  refine v_nmM hF (fun M5 hF => ?_)
  refine v_aload_n (pc := 40) K dX12_writes_40 2 rfl ?_
  refine gX12_told (pc := 41) K hy (by decide) jn_X12 (List.mem_cons_of_mem _ jl_X12_82) dX12_writes_41 ?_
  refine v_iload (pc := 44) K dX12_writes_44 0 rfl ?_
  refine v_aload_n (pc := 46) K dX12_writes_46 2 rfl ?_
  refine gX12_owed (pc := 47) K hy (by decide) jn_X12 (List.mem_cons_of_mem _ jl_X12_59) dX12_writes_47 ?_
  refine v_iconst (pc := 50) (v := 0) K dX12_writes_50 rfl ?_
  refine iX12_owed (pc := 51) K hy (by decide) hF dX12_writes_51 (fun hi6 hF => ?_)
  refine uX12_told (pc := 52) K hy (by decide) hF dX12_writes_52 (fun hi7 hF => ?_)
  refine v_nmM hF (fun M8 hF => ?_)
  refine v_aload_n (pc := 53) K dX12_writes_53 2 rfl ?_
  refine gX12_told (pc := 54) K hy (by decide) jn_X12 (List.mem_cons_of_mem _ jl_X12_82) dX12_writes_54 ?_
  refine v_iload (pc := 57) K dX12_writes_57 0 rfl ?_
  refine v_iconst (pc := 59) (v := 1) K dX12_writes_59 rfl ?_
  refine v_iadd (pc := 60) K dX12_writes_60 ?_
  refine v_aload_n (pc := 61) K dX12_writes_61 2 rfl ?_
  refine gX12_owed (pc := 62) K hy (by decide) jn_X12 (List.mem_cons_of_mem _ jl_X12_59) dX12_writes_62 ?_
  refine v_iconst (pc := 65) (v := 1) K dX12_writes_65 rfl ?_
  refine iX12_owed (pc := 66) K hy (by decide) hF dX12_writes_66 (fun hi9 hF => ?_)
  refine uX12_told (pc := 67) K hy (by decide) hF dX12_writes_67 (fun hi10 hF => ?_)
  refine v_nmM hF (fun M11 hF => ?_)
  refine v_aload_n (pc := 68) K dX12_writes_68 2 rfl ?_
  refine gX12_told (pc := 69) K hy (by decide) jn_X12 (List.mem_cons_of_mem _ jl_X12_82) dX12_writes_69 ?_
  refine v_iload (pc := 72) K dX12_writes_72 0 rfl ?_
  refine v_iconst (pc := 74) (v := 2) K dX12_writes_74 rfl ?_
  refine v_iadd (pc := 75) K dX12_writes_75 ?_
  refine v_aload_n (pc := 76) K dX12_writes_76 2 rfl ?_
  refine gX12_turn (pc := 77) K hy (by decide) jn_X12 (List.mem_cons_of_mem _ jl_X12_338) dX12_writes_77 ?_
  refine uX12_told (pc := 80) K hy (by decide) hF dX12_writes_80 (fun hi12 hF => ?_)
  refine v_nmM hF (fun M13 hF => ?_)
  refine v_aload_n (pc := 81) K dX12_writes_81 2 rfl ?_
  refine gX12_told (pc := 82) K hy (by decide) jn_X12 (List.mem_cons_of_mem _ jl_X12_82) dX12_writes_82 ?_
  refine v_iload (pc := 85) K dX12_writes_85 0 rfl ?_
  refine v_iconst (pc := 87) (v := 3) K dX12_writes_87 rfl ?_
  refine v_iadd (pc := 88) K dX12_writes_88 ?_
  refine v_aload_n (pc := 89) K dX12_writes_89 2 rfl ?_
  refine gX12_asked (pc := 90) K hy (by decide) jn_X12 (List.mem_cons_of_mem _ jl_X12_344) dX12_writes_90 ?_
  refine uX12_told (pc := 93) K hy (by decide) hF dX12_writes_93 (fun hi14 hF => ?_)
  refine v_nmM hF (fun M15 hF => ?_)
  refine v_aload_n (pc := 94) K dX12_writes_94 2 rfl ?_
  refine gX12_told (pc := 95) K hy (by decide) jn_X12 (List.mem_cons_of_mem _ jl_X12_82) dX12_writes_95 ?_
  refine v_iload (pc := 98) K dX12_writes_98 0 rfl ?_
  refine v_iconst (pc := 100) (v := 4) K dX12_writes_100 rfl ?_
  refine v_iadd (pc := 101) K dX12_writes_101 ?_
  refine v_aload_n (pc := 102) K dX12_writes_102 2 rfl ?_
  refine gX12_left (pc := 103) K hy (by decide) jn_X12 (List.mem_cons_of_mem _ jl_X12_341) dX12_writes_103 ?_
  refine uX12_told (pc := 106) K hy (by decide) hF dX12_writes_106 (fun hi16 hF => ?_)
  refine v_nmM hF (fun M17 hF => ?_)
  refine v_aload_n (pc := 107) K dX12_writes_107 2 rfl ?_
  refine gX12_told (pc := 108) K hy (by decide) jn_X12 (List.mem_cons_of_mem _ jl_X12_82) dX12_writes_108 ?_
  refine v_bipush (pc := 111) (v := 64) K dX12_writes_111 rfl ?_
  refine v_iload_n (pc := 113) K dX12_writes_113 3 rfl ?_
  refine v_imul (pc := 114) K dX12_writes_114 ?_
  refine v_iconst (pc := 115) (v := 5) K dX12_writes_115 rfl ?_
  refine v_iadd (pc := 116) K dX12_writes_116 ?_
  refine v_iload_n (pc := 117) K dX12_writes_117 1 rfl ?_
  refine v_iconst (pc := 118) (v := 1) K dX12_writes_118 rfl ?_
  refine v_iadd (pc := 119) K dX12_writes_119 ?_
  refine v_nmI hF (fun v18 hF => ?_)
  refine uX12_told (pc := 120) K hy (by decide) hF dX12_writes_120 (fun hi19 hF => ?_)
  refine v_nmM hF (fun M20 hF => ?_)
  refine v_aload_n (pc := 121) K dX12_writes_121 2 rfl ?_
  refine gX12_told (pc := 122) K hy (by decide) jn_X12 (List.mem_cons_of_mem _ jl_X12_82) dX12_writes_122 ?_
  refine v_bipush (pc := 125) (v := 64) K dX12_writes_125 rfl ?_
  refine v_iload_n (pc := 127) K dX12_writes_127 3 rfl ?_
  refine v_imul (pc := 128) K dX12_writes_128 ?_
  refine v_bipush (pc := 129) (v := 6) K dX12_writes_129 rfl ?_
  refine v_iadd (pc := 131) K dX12_writes_131 ?_
  refine v_aload_n (pc := 132) K dX12_writes_132 2 rfl ?_
  refine gX12_ended (pc := 133) K hy (by decide) jn_X12 (List.mem_cons_of_mem _ jl_X12_347) dX12_writes_133 ?_
  refine uX12_told (pc := 136) K hy (by decide) hF dX12_writes_136 (fun hi21 hF => ?_)
  refine v_nmM hF (fun M22 hF => ?_)
  refine v_aload_n (pc := 137) K dX12_writes_137 2 rfl ?_
  refine gX12_told (pc := 138) K hy (by decide) jn_X12 (List.mem_cons_of_mem _ jl_X12_82) dX12_writes_138 ?_
  refine v_bipush (pc := 141) (v := 64) K dX12_writes_141 rfl ?_
  refine v_iload_n (pc := 143) K dX12_writes_143 3 rfl ?_
  refine v_imul (pc := 144) K dX12_writes_144 ?_
  refine v_bipush (pc := 145) (v := 7) K dX12_writes_145 rfl ?_
  refine v_iadd (pc := 147) K dX12_writes_147 ?_
  refine v_aload_n (pc := 148) K dX12_writes_148 2 rfl ?_
  refine gX12_less (pc := 149) K hy (by decide) jn_X12 (List.mem_cons_of_mem _ jl_X12_350) dX12_writes_149 ?_
  refine uX12_told (pc := 152) K hy (by decide) hF dX12_writes_152 (fun hi23 hF => ?_)
  refine v_nmM hF (fun M24 hF => ?_)
  have hz := (Option.some.inj hF).symm
  subst hz
  exact v_vret (pc := 153) K hQ dX12_writes_153
set_option maxRecDepth 100000 in
set_option maxHeartbeats 4000000 in
theorem kX12_writes (l : Launch) {y : Ly} (hJ : ly_J y) (hy : y.2.2.2.2 = 1) {M M1 : QM} {x1 : Int32} {x2 : Int32} (hF : fX12_writes M x1 x2 = some M1) : Met l yX12_writes wqX12_writes rmX12_writes (q_P y [.ref (ly_o y 1000), .int x1, .int x2] M) (q_E y none M1) 0 0 (ly_A y) :=
  q_met (by decide) rfl hJ rfl rfl rfl (fun x K hQ => bX12_writes_0 l K hy (z := M1) hQ  hF)
-- ===== X12_quarrel (IIII)I
theorem jd_X12_quarrel : yX12_quarrel.cls = RX12 ∧ yX12_quarrel.cls ≠ "java/lang/invoke/MethodHandle" ∧ yX12_quarrel.cls ≠ "java/lang/invoke/VarHandle" ∧ (parseMethodDescriptor yX12_quarrel.desc).map (fun d => d.parameters.length) = some 4 := by decide +kernel
abbrev wqX12_quarrel : List Cond := .code yX12_quarrel cX12_quarrel 6 (some .int) :: wsL_law
abbrev rmX12_quarrel : Room := { frames := 5, cells := 0, slots := 0, locals := 123 }
def fX12_quarrel (M : QM) (x1 : Int32) (x2 : Int32) (x3 : Int32) (x4 : Int32) : Option (Int32 × QM) := if (q_i M 1000 42) = (24 : Int32) then some ((-1 : Int32), M) else (q_b (fX12_areTwo M x1 x2) fun r2 M3 => if r2 = (0 : Int32) then some ((-1 : Int32), M3) else (q_b (fX12_in M3 (Int32.toInt64 x3) (0 : Int64) (9 : Int64)) fun r5 M6 => if r5 = (0 : Int32) then some ((-1 : Int32), M6) else (q_b (fX12_in M6 (Int32.toInt64 x4) (0 : Int64) (3 : Int64)) fun r8 M9 => if r8 = (0 : Int32) then some ((-1 : Int32), M9) else (if q_in (((4 : Int32) * x1) + (3 : Int32)) 48 then if (q_a M9 1000 1 (((4 : Int32) * x1) + (3 : Int32)).toNatClampNeg) < (0 : Int32) then some ((-1 : Int32), M9) else (if q_in (((4 : Int32) * x2) + (3 : Int32)) 48 then if (0 : Int32) ≤ (q_a M9 1000 1 (((4 : Int32) * x2) + (3 : Int32)).toNatClampNeg) then (if q_in ((64 : Int32) * (q_i M9 1000 42)) 1536 then (q_t (p_a M9 1000 43 ((64 : Int32) * (q_i M9 1000 42)).toNatClampNeg x1) fun M13 => (if q_in (((64 : Int32) * (q_i M9 1000 42)) + (1 : Int32)) 1536 then (q_t (p_a M13 1000 43 (((64 : Int32) * (q_i M9 1000 42)) + (1 : Int32)).toNatClampNeg x2) fun M15 => (if q_in (((64 : Int32) * (q_i M9 1000 42)) + (2 : Int32)) 1536 then (q_t (p_a M15 1000 43 (((64 : Int32) * (q_i M9 1000 42)) + (2 : Int32)).toNatClampNeg x3) fun M17 => (if q_in (((4 : Int32) * x1) + (3 : Int32)) 48 then (if q_in (((64 : Int32) * (q_i M9 1000 42)) + (3 : Int32)) 1536 then (q_t (p_a M17 1000 43 (((64 : Int32) * (q_i M9 1000 42)) + (3 : Int32)).toNatClampNeg (q_a M17 1000 1 (((4 : Int32) * x1) + (3 : Int32)).toNatClampNeg)) fun M20 => (if q_in (((4 : Int32) * x2) + (3 : Int32)) 48 then (if q_in (((64 : Int32) * (q_i M9 1000 42)) + (4 : Int32)) 1536 then (q_t (p_a M20 1000 43 (((64 : Int32) * (q_i M9 1000 42)) + (4 : Int32)).toNatClampNeg (q_a M20 1000 1 (((4 : Int32) * x2) + (3 : Int32)).toNatClampNeg)) fun M23 => (if q_in (((64 : Int32) * (q_i M9 1000 42)) + (5 : Int32)) 1536 then (q_t (p_a M23 1000 43 (((64 : Int32) * (q_i M9 1000 42)) + (5 : Int32)).toNatClampNeg (0 : Int32)) fun M25 => (q_bv (fX12_party M25 (q_i M25 1000 42)) fun M28 => (q_bv (fX12_slightsFirst M28 x4 (1 : Int32)) fun M31 => (q_bv (fX12_writes M31 (q_i M31 1000 42) x4) fun M34 => (q_t (p_i M34 1000 42 ((q_i M34 1000 42) + (1 : Int32))) fun M35 => some ((q_i M35 1000 42) - (1 : Int32), M35)))))) else none)) else none) else none)) else none) else none)) else none)) else none)) else none) else some ((-1 : Int32), M9) else none) else none))))
set_option maxRecDepth 100000 in
set_option maxHeartbeats 4000000 in
theorem bX12_quarrel_0 {x : Cx} {y : Ly} (l : Launch) (K : VK x l rmX12_quarrel y 6 cX12_quarrel RX12 wqX12_quarrel) (hy : y.2.2.2.2 = 1) {z : Int32 × QM} (hQ : VQ x y (some (.int z.1)) z.2 (some .int)) {M : QM} {x1 : Int32} {x2 : Int32} {x3 : Int32} {x4 : Int32} (hF : fX12_quarrel M x1 x2 x3 x4 = some z) : V x y 6 M 0 [(0, .ref (ly_o y 1000)), (1, .int x1), (2, .int x2), (3, .int x3), (4, .int x4)] [] := by
  unfold fX12_quarrel at hF
  refine v_aload_n (pc := 0) K dX12_quarrel_0 0 rfl ?_
  refine gX12_quarrels (pc := 1) K hy (by decide) jn_X12 (List.mem_cons_of_mem _ jl_X12_389) dX12_quarrel_1 ?_
  refine v_bipush (pc := 4) (v := 24) K dX12_quarrel_4 rfl ?_
  refine v_icmp_eq (pc := 6) (tgt := 69) K dX12_quarrel_6 (by decide) hF (fun c41 hF => ?_) (fun c41 hF => ?_)
  · refine v_iconst (pc := 69) (v := -1) K dX12_quarrel_69 rfl ?_
    have hz := (Option.some.inj hF).symm
    subst hz
    exact v_iret (pc := 70) K hQ dX12_quarrel_70
  · refine v_aload_n (pc := 9) K dX12_quarrel_9 0 rfl ?_
    refine v_iload_n (pc := 10) K dX12_quarrel_10 1 rfl ?_
    refine v_iload_n (pc := 11) K dX12_quarrel_11 2 rfl ?_
    obtain ⟨r2, M3, hc1, hF⟩ := q_bE hF
    refine v_callV (pc := 12) (ci := 11) (As := [.int x1, .int x2]) (rest := []) (st' := [.int r2]) (r := some (.int r2)) (M1 := M3) K (kX12_areTwo l K.2.2.2.2.2.2.1 hy hc1) (jg_V jl_X12_107 jw_i_X12_areTwo jw_s_X12_areTwo jw_n_X12 jw_c_X12_areTwo) rfl rfl rfl jd_X12_areTwo ⟨Nat.le_of_ble_eq_true rfl, Nat.le_of_ble_eq_true rfl⟩ rfl rfl (Nat.le_of_ble_eq_true rfl) (by decide) (okc_1 hy) rfl dX12_quarrel_12 rfl ?_
    refine v_if_eq (pc := 15) (tgt := 69) K dX12_quarrel_15 (by decide) hF (fun c40 hF => ?_) (fun c40 hF => ?_)
    · refine v_iconst (pc := 69) (v := -1) K dX12_quarrel_69 rfl ?_
      have hz := (Option.some.inj hF).symm
      subst hz
      exact v_iret (pc := 70) K hQ dX12_quarrel_70
    · refine v_iload_n (pc := 18) K dX12_quarrel_18 3 rfl ?_
      refine v_i2l (pc := 19) K dX12_quarrel_19 ?_
      refine v_lconst (pc := 20) (v := 0) K dX12_quarrel_20 rfl ?_
      refine v_ldc2 (pc := 21) (v := 9) K dX12_quarrel_21 (List.mem_cons_of_mem _ jl_X12_101) ?_
      obtain ⟨r5, M6, hc4, hF⟩ := q_bE hF
      refine v_callS (pc := 24) (As := [.long (Int32.toInt64 x3), .long (0 : Int64), .long (9 : Int64)]) (rest := []) (st' := [.int r5]) (r := some (.int r5)) (M1 := M6) K (kX12_in l K.2.2.2.2.2.2.1 hy hc4) (jg_S jl_X12_97 jw_t_X12_in jw_n_X12 jw_c_X12_in) rfl rfl rfl jd_X12_in ⟨Nat.le_of_ble_eq_true rfl, Nat.le_of_ble_eq_true rfl⟩ rfl rfl (Nat.le_of_ble_eq_true rfl) dX12_quarrel_24 rfl ?_
      refine v_if_eq (pc := 27) (tgt := 69) K dX12_quarrel_27 (by decide) hF (fun c39 hF => ?_) (fun c39 hF => ?_)
      · refine v_iconst (pc := 69) (v := -1) K dX12_quarrel_69 rfl ?_
        have hz := (Option.some.inj hF).symm
        subst hz
        exact v_iret (pc := 70) K hQ dX12_quarrel_70
      · refine v_iload (pc := 30) K dX12_quarrel_30 4 rfl ?_
        refine v_i2l (pc := 32) K dX12_quarrel_32 ?_
        refine v_lconst (pc := 33) (v := 0) K dX12_quarrel_33 rfl ?_
        refine v_ldc2 (pc := 34) (v := 3) K dX12_quarrel_34 (List.mem_cons_of_mem _ jl_X12_289) ?_
        obtain ⟨r8, M9, hc7, hF⟩ := q_bE hF
        refine v_callS (pc := 37) (As := [.long (Int32.toInt64 x4), .long (0 : Int64), .long (3 : Int64)]) (rest := []) (st' := [.int r8]) (r := some (.int r8)) (M1 := M9) K (kX12_in l K.2.2.2.2.2.2.1 hy hc7) (jg_S jl_X12_97 jw_t_X12_in jw_n_X12 jw_c_X12_in) rfl rfl rfl jd_X12_in ⟨Nat.le_of_ble_eq_true rfl, Nat.le_of_ble_eq_true rfl⟩ rfl rfl (Nat.le_of_ble_eq_true rfl) dX12_quarrel_37 rfl ?_
        refine v_if_eq (pc := 40) (tgt := 69) K dX12_quarrel_40 (by decide) hF (fun c38 hF => ?_) (fun c38 hF => ?_)
        · refine v_iconst (pc := 69) (v := -1) K dX12_quarrel_69 rfl ?_
          have hz := (Option.some.inj hF).symm
          subst hz
          exact v_iret (pc := 70) K hQ dX12_quarrel_70
        · refine v_aload_n (pc := 43) K dX12_quarrel_43 0 rfl ?_
          refine gX12_person (pc := 44) K hy (by decide) jn_X12 (List.mem_cons_of_mem _ jl_X12_7) dX12_quarrel_44 ?_
          refine v_iconst (pc := 47) (v := 4) K dX12_quarrel_47 rfl ?_
          refine v_iload_n (pc := 48) K dX12_quarrel_48 1 rfl ?_
          refine v_imul (pc := 49) K dX12_quarrel_49 ?_
          refine v_iconst (pc := 50) (v := 3) K dX12_quarrel_50 rfl ?_
          refine v_iadd (pc := 51) K dX12_quarrel_51 ?_
          refine iX12_person (pc := 52) K hy (by decide) hF dX12_quarrel_52 (fun hi10 hF => ?_)
          refine v_if_lt (pc := 53) (tgt := 69) K dX12_quarrel_53 (by decide) hF (fun c37 hF => ?_) (fun c37 hF => ?_)
          · refine v_iconst (pc := 69) (v := -1) K dX12_quarrel_69 rfl ?_
            have hz := (Option.some.inj hF).symm
            subst hz
            exact v_iret (pc := 70) K hQ dX12_quarrel_70
          · refine v_aload_n (pc := 56) K dX12_quarrel_56 0 rfl ?_
            refine gX12_person (pc := 57) K hy (by decide) jn_X12 (List.mem_cons_of_mem _ jl_X12_7) dX12_quarrel_57 ?_
            refine v_iconst (pc := 60) (v := 4) K dX12_quarrel_60 rfl ?_
            refine v_iload_n (pc := 61) K dX12_quarrel_61 2 rfl ?_
            refine v_imul (pc := 62) K dX12_quarrel_62 ?_
            refine v_iconst (pc := 63) (v := 3) K dX12_quarrel_63 rfl ?_
            refine v_iadd (pc := 64) K dX12_quarrel_64 ?_
            refine iX12_person (pc := 65) K hy (by decide) hF dX12_quarrel_65 (fun hi11 hF => ?_)
            refine v_if_ge (pc := 66) (tgt := 71) K dX12_quarrel_66 (by decide) hF (fun c36 hF => ?_) (fun c36 hF => ?_)
            · refine v_bipush (pc := 71) (v := 64) K dX12_quarrel_71 rfl ?_
              refine v_aload_n (pc := 73) K dX12_quarrel_73 0 rfl ?_
              refine gX12_quarrels (pc := 74) K hy (by decide) jn_X12 (List.mem_cons_of_mem _ jl_X12_389) dX12_quarrel_74 ?_
              refine v_imul (pc := 77) K dX12_quarrel_77 ?_
              refine v_istore (pc := 78) (lv' := [(5, .int ((64 : Int32) * (q_i M9 1000 42))), (0, .ref (ly_o y 1000)), (1, .int x1), (2, .int x2), (3, .int x3), (4, .int x4)]) K 5 dX12_quarrel_78 (by decide) rfl ?_
              refine v_aload_n (pc := 80) K dX12_quarrel_80 1 rfl ?_
              refine gX12_told (pc := 81) K hy (by decide) jn_X12 (List.mem_cons_of_mem _ jl_X12_82) dX12_quarrel_81 ?_
              refine v_iload (pc := 84) K dX12_quarrel_84 0 rfl ?_
              refine v_iload_n (pc := 86) K dX12_quarrel_86 2 rfl ?_
              refine uX12_told (pc := 87) K hy (by decide) hF dX12_quarrel_87 (fun hi12 hF => ?_)
              refine v_nmM hF (fun M13 hF => ?_)
              refine v_aload_n (pc := 88) K dX12_quarrel_88 1 rfl ?_
              refine gX12_told (pc := 89) K hy (by decide) jn_X12 (List.mem_cons_of_mem _ jl_X12_82) dX12_quarrel_89 ?_
              refine v_iload (pc := 92) K dX12_quarrel_92 0 rfl ?_
              refine v_iconst (pc := 94) (v := 1) K dX12_quarrel_94 rfl ?_
              refine v_iadd (pc := 95) K dX12_quarrel_95 ?_
              refine v_iload_n (pc := 96) K dX12_quarrel_96 3 rfl ?_
              refine uX12_told (pc := 97) K hy (by decide) hF dX12_quarrel_97 (fun hi14 hF => ?_)
              refine v_nmM hF (fun M15 hF => ?_)
              refine v_aload_n (pc := 98) K dX12_quarrel_98 1 rfl ?_
              refine gX12_told (pc := 99) K hy (by decide) jn_X12 (List.mem_cons_of_mem _ jl_X12_82) dX12_quarrel_99 ?_
              refine v_iload (pc := 102) K dX12_quarrel_102 0 rfl ?_
              refine v_iconst (pc := 104) (v := 2) K dX12_quarrel_104 rfl ?_
              refine v_iadd (pc := 105) K dX12_quarrel_105 ?_
              refine v_iload_n (pc := 106) K dX12_quarrel_106 4 rfl ?_
              refine uX12_told (pc := 107) K hy (by decide) hF dX12_quarrel_107 (fun hi16 hF => ?_)
              refine v_nmM hF (fun M17 hF => ?_)
              refine v_aload_n (pc := 108) K dX12_quarrel_108 1 rfl ?_
              refine gX12_told (pc := 109) K hy (by decide) jn_X12 (List.mem_cons_of_mem _ jl_X12_82) dX12_quarrel_109 ?_
              refine v_iload (pc := 112) K dX12_quarrel_112 0 rfl ?_
              refine v_iconst (pc := 114) (v := 3) K dX12_quarrel_114 rfl ?_
              refine v_iadd (pc := 115) K dX12_quarrel_115 ?_
              refine v_aload_n (pc := 116) K dX12_quarrel_116 1 rfl ?_
              refine gX12_person (pc := 117) K hy (by decide) jn_X12 (List.mem_cons_of_mem _ jl_X12_7) dX12_quarrel_117 ?_
              refine v_iconst (pc := 120) (v := 4) K dX12_quarrel_120 rfl ?_
              refine v_iload_n (pc := 121) K dX12_quarrel_121 2 rfl ?_
              refine v_imul (pc := 122) K dX12_quarrel_122 ?_
              refine v_iconst (pc := 123) (v := 3) K dX12_quarrel_123 rfl ?_
              refine v_iadd (pc := 124) K dX12_quarrel_124 ?_
              refine iX12_person (pc := 125) K hy (by decide) hF dX12_quarrel_125 (fun hi18 hF => ?_)
              refine uX12_told (pc := 126) K hy (by decide) hF dX12_quarrel_126 (fun hi19 hF => ?_)
              refine v_nmM hF (fun M20 hF => ?_)
              refine v_aload_n (pc := 127) K dX12_quarrel_127 1 rfl ?_
              refine gX12_told (pc := 128) K hy (by decide) jn_X12 (List.mem_cons_of_mem _ jl_X12_82) dX12_quarrel_128 ?_
              refine v_iload (pc := 131) K dX12_quarrel_131 0 rfl ?_
              refine v_iconst (pc := 133) (v := 4) K dX12_quarrel_133 rfl ?_
              refine v_iadd (pc := 134) K dX12_quarrel_134 ?_
              refine v_aload_n (pc := 135) K dX12_quarrel_135 1 rfl ?_
              refine gX12_person (pc := 136) K hy (by decide) jn_X12 (List.mem_cons_of_mem _ jl_X12_7) dX12_quarrel_136 ?_
              refine v_iconst (pc := 139) (v := 4) K dX12_quarrel_139 rfl ?_
              refine v_iload_n (pc := 140) K dX12_quarrel_140 3 rfl ?_
              refine v_imul (pc := 141) K dX12_quarrel_141 ?_
              refine v_iconst (pc := 142) (v := 3) K dX12_quarrel_142 rfl ?_
              refine v_iadd (pc := 143) K dX12_quarrel_143 ?_
              refine iX12_person (pc := 144) K hy (by decide) hF dX12_quarrel_144 (fun hi21 hF => ?_)
              refine uX12_told (pc := 145) K hy (by decide) hF dX12_quarrel_145 (fun hi22 hF => ?_)
              refine v_nmM hF (fun M23 hF => ?_)
              refine v_aload_n (pc := 146) K dX12_quarrel_146 1 rfl ?_
              refine gX12_told (pc := 147) K hy (by decide) jn_X12 (List.mem_cons_of_mem _ jl_X12_82) dX12_quarrel_147 ?_
              refine v_iload (pc := 150) K dX12_quarrel_150 0 rfl ?_
              refine v_iconst (pc := 152) (v := 5) K dX12_quarrel_152 rfl ?_
              refine v_iadd (pc := 153) K dX12_quarrel_153 ?_
              refine v_iconst (pc := 154) (v := 0) K dX12_quarrel_154 rfl ?_
              refine uX12_told (pc := 155) K hy (by decide) hF dX12_quarrel_155 (fun hi24 hF => ?_)
              refine v_nmM hF (fun M25 hF => ?_)
              refine v_aload_n (pc := 156) K dX12_quarrel_156 1 rfl ?_
              refine v_aload_n (pc := 157) K dX12_quarrel_157 1 rfl ?_
              refine gX12_quarrels (pc := 158) K hy (by decide) jn_X12 (List.mem_cons_of_mem _ jl_X12_389) dX12_quarrel_158 ?_
              obtain ⟨M28, hc26, hF⟩ := q_bvE hF
              refine v_callV (pc := 161) (ci := 11) (As := [.int (q_i M25 1000 42)]) (rest := []) (st' := []) (r := none) (M1 := M28) K (kX12_party l K.2.2.2.2.2.2.1 hy hc26) (jg_V jl_X12_396 jw_i_X12_party jw_s_X12_party jw_n_X12 jw_c_X12_party) rfl rfl rfl jd_X12_party ⟨Nat.le_of_ble_eq_true rfl, Nat.le_of_ble_eq_true rfl⟩ rfl rfl (Nat.le_of_ble_eq_true rfl) (by decide) (okc_1 hy) rfl dX12_quarrel_161 rfl ?_
              refine v_aload_n (pc := 164) K dX12_quarrel_164 1 rfl ?_
              refine v_iload (pc := 165) K dX12_quarrel_165 5 rfl ?_
              refine v_iconst (pc := 167) (v := 1) K dX12_quarrel_167 rfl ?_
              obtain ⟨M31, hc29, hF⟩ := q_bvE hF
              refine v_callV (pc := 168) (ci := 11) (As := [.int x4, .int (1 : Int32)]) (rest := []) (st' := []) (r := none) (M1 := M31) K (kX12_slightsFirst l K.2.2.2.2.2.2.1 hy hc29) (jg_V jl_X12_402 jw_i_X12_slightsFirst jw_s_X12_slightsFirst jw_n_X12 jw_c_X12_slightsFirst) rfl rfl rfl jd_X12_slightsFirst ⟨Nat.le_of_ble_eq_true rfl, Nat.le_of_ble_eq_true rfl⟩ rfl rfl (Nat.le_of_ble_eq_true rfl) (by decide) (okc_1 hy) rfl dX12_quarrel_168 rfl ?_
              refine v_aload_n (pc := 171) K dX12_quarrel_171 1 rfl ?_
              refine v_aload_n (pc := 172) K dX12_quarrel_172 1 rfl ?_
              refine gX12_quarrels (pc := 173) K hy (by decide) jn_X12 (List.mem_cons_of_mem _ jl_X12_389) dX12_quarrel_173 ?_
              refine v_iload (pc := 176) K dX12_quarrel_176 5 rfl ?_
              obtain ⟨M34, hc32, hF⟩ := q_bvE hF
              refine v_callV (pc := 178) (ci := 11) (As := [.int (q_i M31 1000 42), .int x4]) (rest := []) (st' := []) (r := none) (M1 := M34) K (kX12_writes l K.2.2.2.2.2.2.1 hy hc32) (jg_V jl_X12_405 jw_i_X12_writes jw_s_X12_writes jw_n_X12 jw_c_X12_writes) rfl rfl rfl jd_X12_writes ⟨Nat.le_of_ble_eq_true rfl, Nat.le_of_ble_eq_true rfl⟩ rfl rfl (Nat.le_of_ble_eq_true rfl) (by decide) (okc_1 hy) rfl dX12_quarrel_178 rfl ?_
              refine v_aload_n (pc := 181) K dX12_quarrel_181 1 rfl ?_
              refine v_dup (pc := 182) K dX12_quarrel_182 rfl ?_
              refine gX12_quarrels (pc := 183) K hy (by decide) jn_X12 (List.mem_cons_of_mem _ jl_X12_389) dX12_quarrel_183 ?_
              refine v_iconst (pc := 186) (v := 1) K dX12_quarrel_186 rfl ?_
              refine v_iadd (pc := 187) K dX12_quarrel_187 ?_
              refine pX12_quarrels (pc := 188) K hy (by decide) jn_X12 (List.mem_cons_of_mem _ jl_X12_389) dX12_quarrel_188 ?_
              refine v_nmM hF (fun M35 hF => ?_)
              refine v_aload_n (pc := 191) K dX12_quarrel_191 1 rfl ?_
              refine gX12_quarrels (pc := 192) K hy (by decide) jn_X12 (List.mem_cons_of_mem _ jl_X12_389) dX12_quarrel_192 ?_
              refine v_iconst (pc := 195) (v := 1) K dX12_quarrel_195 rfl ?_
              refine v_isub (pc := 196) K dX12_quarrel_196 ?_
              have hz := (Option.some.inj hF).symm
              subst hz
              exact v_iret (pc := 197) K hQ dX12_quarrel_197
            · refine v_iconst (pc := 69) (v := -1) K dX12_quarrel_69 rfl ?_
              have hz := (Option.some.inj hF).symm
              subst hz
              exact v_iret (pc := 70) K hQ dX12_quarrel_70
set_option maxRecDepth 100000 in
set_option maxHeartbeats 4000000 in
theorem kX12_quarrel (l : Launch) {y : Ly} (hJ : ly_J y) (hy : y.2.2.2.2 = 1) {M M1 : QM} {r : Int32} {x1 : Int32} {x2 : Int32} {x3 : Int32} {x4 : Int32} (hF : fX12_quarrel M x1 x2 x3 x4 = some (r, M1)) : Met l yX12_quarrel wqX12_quarrel rmX12_quarrel (q_P y [.ref (ly_o y 1000), .int x1, .int x2, .int x3, .int x4] M) (q_E y (some (.int r)) M1) 0 0 (ly_A y) :=
  q_met (by decide) rfl hJ rfl rfl rfl (fun x K hQ => bX12_quarrel_0 l K hy (z := (r, M1)) hQ  hF)
-- ===== X12_isOn (I)Z
theorem jd_X12_isOn : yX12_isOn.cls = RX12 ∧ yX12_isOn.cls ≠ "java/lang/invoke/MethodHandle" ∧ yX12_isOn.cls ≠ "java/lang/invoke/VarHandle" ∧ (parseMethodDescriptor yX12_isOn.desc).map (fun d => d.parameters.length) = some 1 := by decide +kernel
abbrev wqX12_isOn : List Cond := .code yX12_isOn cX12_isOn 2 (some .boolean) :: wsL_law
abbrev rmX12_isOn : Room := { frames := 0, cells := 0, slots := 0, locals := 0 }
def fX12_isOn (M : QM) (x1 : Int32) : Option (Int32 × QM) := (if q_in (((64 : Int32) * x1) + (6 : Int32)) 1536 then if (q_a M 1000 43 (((64 : Int32) * x1) + (6 : Int32)).toNatClampNeg) ≠ (0 : Int32) then some ((0 : Int32), M) else some ((1 : Int32), M) else none)
set_option maxRecDepth 100000 in
set_option maxHeartbeats 4000000 in
theorem bX12_isOn_0 {x : Cx} {y : Ly} (l : Launch) (K : VK x l rmX12_isOn y 2 cX12_isOn RX12 wqX12_isOn) (hy : y.2.2.2.2 = 1) {z : Int32 × QM} (hQ : VQ x y (some (.int z.1)) z.2 (some .boolean)) {M : QM} {x1 : Int32} (hF : fX12_isOn M x1 = some z) : V x y 2 M 0 [(0, .ref (ly_o y 1000)), (1, .int x1)] [] := by
  unfold fX12_isOn at hF
  refine v_aload_n (pc := 0) K dX12_isOn_0 0 rfl ?_
  refine gX12_told (pc := 1) K hy (by decide) jn_X12 (List.mem_cons_of_mem _ jl_X12_82) dX12_isOn_1 ?_
  refine v_bipush (pc := 4) (v := 64) K dX12_isOn_4 rfl ?_
  refine v_iload_n (pc := 6) K dX12_isOn_6 1 rfl ?_
  refine v_imul (pc := 7) K dX12_isOn_7 ?_
  refine v_bipush (pc := 8) (v := 6) K dX12_isOn_8 rfl ?_
  refine v_iadd (pc := 10) K dX12_isOn_10 ?_
  refine iX12_told (pc := 11) K hy (by decide) hF dX12_isOn_11 (fun hi1 hF => ?_)
  refine v_if_ne (pc := 12) (tgt := 19) K dX12_isOn_12 (by decide) hF (fun c2 hF => ?_) (fun c2 hF => ?_)
  · refine v_iconst (pc := 19) (v := 0) K dX12_isOn_19 rfl ?_
    have hz := (Option.some.inj hF).symm
    subst hz
    exact v_zret (pc := 20) K hQ rfl dX12_isOn_20
  · refine v_iconst (pc := 15) (v := 1) K dX12_isOn_15 rfl ?_
    refine v_goto (pc := 16) (tgt := 20) K dX12_isOn_16 (by decide) ?_
    have hz := (Option.some.inj hF).symm
    subst hz
    exact v_zret (pc := 20) K hQ rfl dX12_isOn_20
set_option maxRecDepth 100000 in
set_option maxHeartbeats 4000000 in
theorem kX12_isOn (l : Launch) {y : Ly} (hJ : ly_J y) (hy : y.2.2.2.2 = 1) {M M1 : QM} {r : Int32} {x1 : Int32} (hF : fX12_isOn M x1 = some (r, M1)) : Met l yX12_isOn wqX12_isOn rmX12_isOn (q_P y [.ref (ly_o y 1000), .int x1] M) (q_E y (some (.int r)) M1) 0 0 (ly_A y) :=
  q_met (by decide) rfl hJ rfl rfl rfl (fun x K hQ => bX12_isOn_0 l K hy (z := (r, M1)) hQ  hF)
-- ===== X12_state (II)I
theorem jd_X12_state : yX12_state.cls = RX12 ∧ yX12_state.cls ≠ "java/lang/invoke/MethodHandle" ∧ yX12_state.cls ≠ "java/lang/invoke/VarHandle" ∧ (parseMethodDescriptor yX12_state.desc).map (fun d => d.parameters.length) = some 2 := by decide +kernel
abbrev wqX12_state : List Cond := .code yX12_state cX12_state 3 (some .int) :: wsL_law
abbrev rmX12_state : Room := { frames := 4, cells := 0, slots := 0, locals := 92 }
def fX12_state (M : QM) (x1 : Int32) (x2 : Int32) : Option (Int32 × QM) := (q_b (fX12_isQuarrel M x1) fun r2 M3 => if r2 = (0 : Int32) then some ((-1 : Int32), M3) else (q_b (fX12_in M3 (Int32.toInt64 x2) (0 : Int64) (7 : Int64)) fun r5 M6 => if r5 ≠ (0 : Int32) then (q_bv (fX12_loadLast M6 x1) fun M9 => if x2 = (0 : Int32) then some (q_i M9 1000 34, M9) else if x2 = (1 : Int32) then some (q_i M9 1000 35, M9) else if x2 = (2 : Int32) then (if q_in (0 : Int32) 2 then some (q_a M9 1000 30 (0 : Int32).toNatClampNeg, M9) else none) else if x2 = (3 : Int32) then (if q_in (1 : Int32) 2 then some (q_a M9 1000 30 (1 : Int32).toNatClampNeg, M9) else none) else if x2 = (4 : Int32) then if (q_i M9 1000 34) ≤ (0 : Int32) then some (q_i M9 1000 31, M9) else some ((-1 : Int32), M9) else if x2 = (5 : Int32) then some (q_i M9 1000 32, M9) else if x2 = (6 : Int32) then some (q_i M9 1000 33, M9) else (if q_in (((64 : Int32) * x1) + (5 : Int32)) 1536 then some (q_a M9 1000 43 (((64 : Int32) * x1) + (5 : Int32)).toNatClampNeg, M9) else none)) else some ((-1 : Int32), M6)))
set_option maxRecDepth 100000 in
set_option maxHeartbeats 4000000 in
theorem bX12_state_0 {x : Cx} {y : Ly} (l : Launch) (K : VK x l rmX12_state y 3 cX12_state RX12 wqX12_state) (hy : y.2.2.2.2 = 1) {z : Int32 × QM} (hQ : VQ x y (some (.int z.1)) z.2 (some .int)) {M : QM} {x1 : Int32} {x2 : Int32} (hF : fX12_state M x1 x2 = some z) : V x y 3 M 0 [(0, .ref (ly_o y 1000)), (1, .int x1), (2, .int x2)] [] := by
  unfold fX12_state at hF
  refine v_aload_n (pc := 0) K dX12_state_0 0 rfl ?_
  refine v_iload_n (pc := 1) K dX12_state_1 1 rfl ?_
  obtain ⟨r2, M3, hc1, hF⟩ := q_bE hF
  refine v_callV (pc := 2) (ci := 11) (As := [.int x1]) (rest := []) (st' := [.int r2]) (r := some (.int r2)) (M1 := M3) K (kX12_isQuarrel l K.2.2.2.2.2.2.1 hy hc1) (jg_V jl_X12_408 jw_i_X12_isQuarrel jw_s_X12_isQuarrel jw_n_X12 jw_c_X12_isQuarrel) rfl rfl rfl jd_X12_isQuarrel ⟨Nat.le_of_ble_eq_true rfl, Nat.le_of_ble_eq_true rfl⟩ rfl rfl (Nat.le_of_ble_eq_true rfl) (by decide) (okc_1 hy) rfl dX12_state_2 rfl ?_
  refine v_if_eq (pc := 5) (tgt := 20) K dX12_state_5 (by decide) hF (fun c22 hF => ?_) (fun c22 hF => ?_)
  · refine v_iconst (pc := 20) (v := -1) K dX12_state_20 rfl ?_
    have hz := (Option.some.inj hF).symm
    subst hz
    exact v_iret (pc := 21) K hQ dX12_state_21
  · refine v_iload_n (pc := 8) K dX12_state_8 2 rfl ?_
    refine v_i2l (pc := 9) K dX12_state_9 ?_
    refine v_lconst (pc := 10) (v := 0) K dX12_state_10 rfl ?_
    refine v_ldc2 (pc := 11) (v := 7) K dX12_state_11 (List.mem_cons_of_mem _ jl_X12_411) ?_
    obtain ⟨r5, M6, hc4, hF⟩ := q_bE hF
    refine v_callS (pc := 14) (As := [.long (Int32.toInt64 x2), .long (0 : Int64), .long (7 : Int64)]) (rest := []) (st' := [.int r5]) (r := some (.int r5)) (M1 := M6) K (kX12_in l K.2.2.2.2.2.2.1 hy hc4) (jg_S jl_X12_97 jw_t_X12_in jw_n_X12 jw_c_X12_in) rfl rfl rfl jd_X12_in ⟨Nat.le_of_ble_eq_true rfl, Nat.le_of_ble_eq_true rfl⟩ rfl rfl (Nat.le_of_ble_eq_true rfl) dX12_state_14 rfl ?_
    refine v_if_ne (pc := 17) (tgt := 22) K dX12_state_17 (by decide) hF (fun c21 hF => ?_) (fun c21 hF => ?_)
    · refine v_aload_n (pc := 22) K dX12_state_22 0 rfl ?_
      refine v_iload_n (pc := 23) K dX12_state_23 1 rfl ?_
      obtain ⟨M9, hc7, hF⟩ := q_bvE hF
      refine v_callV (pc := 24) (ci := 11) (As := [.int x1]) (rest := []) (st' := []) (r := none) (M1 := M9) K (kX12_loadLast l K.2.2.2.2.2.2.1 hy hc7) (jg_V jl_X12_413 jw_i_X12_loadLast jw_s_X12_loadLast jw_n_X12 jw_c_X12_loadLast) rfl rfl rfl jd_X12_loadLast ⟨Nat.le_of_ble_eq_true rfl, Nat.le_of_ble_eq_true rfl⟩ rfl rfl (Nat.le_of_ble_eq_true rfl) (by decide) (okc_1 hy) rfl dX12_state_24 rfl ?_
      refine v_iload_n (pc := 27) K dX12_state_27 2 rfl ?_
      rcases q_iE hF with ⟨c10, hF⟩ | ⟨c10, hF⟩
      · refine v_tabE (pc := 28) (tgt := 72) (off := 44) K c10 dX12_state_28 (by decide) (by decide) (by decide +kernel) (by decide) ?_
        refine v_aload_n (pc := 72) K dX12_state_72 0 rfl ?_
        refine gX12_ended (pc := 73) K hy (by decide) jn_X12 (List.mem_cons_of_mem _ jl_X12_347) dX12_state_73 ?_
        have hz := (Option.some.inj hF).symm
        subst hz
        exact v_iret (pc := 76) K hQ dX12_state_76
      rcases q_iE hF with ⟨c11, hF⟩ | ⟨c11, hF⟩
      · refine v_tabE (pc := 28) (tgt := 77) (off := 49) K c11 dX12_state_28 (by decide) (by decide) (by decide +kernel) (by decide) ?_
        refine v_aload_n (pc := 77) K dX12_state_77 0 rfl ?_
        refine gX12_less (pc := 78) K hy (by decide) jn_X12 (List.mem_cons_of_mem _ jl_X12_350) dX12_state_78 ?_
        have hz := (Option.some.inj hF).symm
        subst hz
        exact v_iret (pc := 81) K hQ dX12_state_81
      rcases q_iE hF with ⟨c12, hF⟩ | ⟨c12, hF⟩
      · refine v_tabE (pc := 28) (tgt := 82) (off := 54) K c12 dX12_state_28 (by decide) (by decide) (by decide +kernel) (by decide) ?_
        refine v_aload_n (pc := 82) K dX12_state_82 0 rfl ?_
        refine gX12_owed (pc := 83) K hy (by decide) jn_X12 (List.mem_cons_of_mem _ jl_X12_59) dX12_state_83 ?_
        refine v_iconst (pc := 86) (v := 0) K dX12_state_86 rfl ?_
        refine iX12_owed (pc := 87) K hy (by decide) hF dX12_state_87 (fun hi13 hF => ?_)
        have hz := (Option.some.inj hF).symm
        subst hz
        exact v_iret (pc := 88) K hQ dX12_state_88
      rcases q_iE hF with ⟨c14, hF⟩ | ⟨c14, hF⟩
      · refine v_tabE (pc := 28) (tgt := 89) (off := 61) K c14 dX12_state_28 (by decide) (by decide) (by decide +kernel) (by decide) ?_
        refine v_aload_n (pc := 89) K dX12_state_89 0 rfl ?_
        refine gX12_owed (pc := 90) K hy (by decide) jn_X12 (List.mem_cons_of_mem _ jl_X12_59) dX12_state_90 ?_
        refine v_iconst (pc := 93) (v := 1) K dX12_state_93 rfl ?_
        refine iX12_owed (pc := 94) K hy (by decide) hF dX12_state_94 (fun hi15 hF => ?_)
        have hz := (Option.some.inj hF).symm
        subst hz
        exact v_iret (pc := 95) K hQ dX12_state_95
      rcases q_iE hF with ⟨c16, hF⟩ | ⟨c16, hF⟩
      · refine v_tabE (pc := 28) (tgt := 96) (off := 68) K c16 dX12_state_28 (by decide) (by decide) (by decide +kernel) (by decide) ?_
        refine v_aload_n (pc := 96) K dX12_state_96 0 rfl ?_
        refine gX12_ended (pc := 97) K hy (by decide) jn_X12 (List.mem_cons_of_mem _ jl_X12_347) dX12_state_97 ?_
        refine v_if_le (pc := 100) (tgt := 107) K dX12_state_100 (by decide) hF (fun c17 hF => ?_) (fun c17 hF => ?_)
        · refine v_aload_n (pc := 107) K dX12_state_107 0 rfl ?_
          refine gX12_turn (pc := 108) K hy (by decide) jn_X12 (List.mem_cons_of_mem _ jl_X12_338) dX12_state_108 ?_
          have hz := (Option.some.inj hF).symm
          subst hz
          exact v_iret (pc := 111) K hQ dX12_state_111
        · refine v_iconst (pc := 103) (v := -1) K dX12_state_103 rfl ?_
          refine v_goto (pc := 104) (tgt := 111) K dX12_state_104 (by decide) ?_
          have hz := (Option.some.inj hF).symm
          subst hz
          exact v_iret (pc := 111) K hQ dX12_state_111
      rcases q_iE hF with ⟨c18, hF⟩ | ⟨c18, hF⟩
      · refine v_tabE (pc := 28) (tgt := 112) (off := 84) K c18 dX12_state_28 (by decide) (by decide) (by decide +kernel) (by decide) ?_
        refine v_aload_n (pc := 112) K dX12_state_112 0 rfl ?_
        refine gX12_asked (pc := 113) K hy (by decide) jn_X12 (List.mem_cons_of_mem _ jl_X12_344) dX12_state_113 ?_
        have hz := (Option.some.inj hF).symm
        subst hz
        exact v_iret (pc := 116) K hQ dX12_state_116
      rcases q_iE hF with ⟨c19, hF⟩ | ⟨c19, hF⟩
      · refine v_tabE (pc := 28) (tgt := 117) (off := 89) K c19 dX12_state_28 (by decide) (by decide) (by decide +kernel) (by decide) ?_
        refine v_aload_n (pc := 117) K dX12_state_117 0 rfl ?_
        refine gX12_left (pc := 118) K hy (by decide) jn_X12 (List.mem_cons_of_mem _ jl_X12_341) dX12_state_118 ?_
        have hz := (Option.some.inj hF).symm
        subst hz
        exact v_iret (pc := 121) K hQ dX12_state_121
      refine v_tabN (pc := 28) (tgt := 122) K dX12_state_28 (q_tn_0_6 c10 c11 c12 c14 c16 c18 c19) (by decide) ?_
      refine v_aload_n (pc := 122) K dX12_state_122 0 rfl ?_
      refine gX12_told (pc := 123) K hy (by decide) jn_X12 (List.mem_cons_of_mem _ jl_X12_82) dX12_state_123 ?_
      refine v_bipush (pc := 126) (v := 64) K dX12_state_126 rfl ?_
      refine v_iload_n (pc := 128) K dX12_state_128 1 rfl ?_
      refine v_imul (pc := 129) K dX12_state_129 ?_
      refine v_iconst (pc := 130) (v := 5) K dX12_state_130 rfl ?_
      refine v_iadd (pc := 131) K dX12_state_131 ?_
      refine iX12_told (pc := 132) K hy (by decide) hF dX12_state_132 (fun hi20 hF => ?_)
      have hz := (Option.some.inj hF).symm
      subst hz
      exact v_iret (pc := 133) K hQ dX12_state_133
    · refine v_iconst (pc := 20) (v := -1) K dX12_state_20 rfl ?_
      have hz := (Option.some.inj hF).symm
      subst hz
      exact v_iret (pc := 21) K hQ dX12_state_21
set_option maxRecDepth 100000 in
set_option maxHeartbeats 4000000 in
theorem kX12_state (l : Launch) {y : Ly} (hJ : ly_J y) (hy : y.2.2.2.2 = 1) {M M1 : QM} {r : Int32} {x1 : Int32} {x2 : Int32} (hF : fX12_state M x1 x2 = some (r, M1)) : Met l yX12_state wqX12_state rmX12_state (q_P y [.ref (ly_o y 1000), .int x1, .int x2] M) (q_E y (some (.int r)) M1) 0 0 (ly_A y) :=
  q_met (by decide) rfl hJ rfl rfl rfl (fun x K hQ => bX12_state_0 l K hy (z := (r, M1)) hQ  hF)
-- ===== X12_may (I)I
theorem jd_X12_may : yX12_may.cls = RX12 ∧ yX12_may.cls ≠ "java/lang/invoke/MethodHandle" ∧ yX12_may.cls ≠ "java/lang/invoke/VarHandle" ∧ (parseMethodDescriptor yX12_may.desc).map (fun d => d.parameters.length) = some 1 := by decide +kernel
abbrev wqX12_may : List Cond := .code yX12_may cX12_may 4 (some .int) :: wsL_law
abbrev rmX12_may : Room := { frames := 4, cells := 0, slots := 0, locals := 92 }
def fX12_may_b41 (k19 : QM → Int32 → Int32 → Option (Int32 × QM)) (M : QM) (x3 : Int32) (s0 : Int32) (s1 : Int32) : Option (Int32 × QM) := (k19 M (s1 ||| s0) (x3 + (1 : Int32)))
set_option maxRecDepth 100000 in
set_option maxHeartbeats 4000000 in
theorem bX12_may_41 {x : Cx} {y : Ly} (l : Launch) (K : VK x l rmX12_may y 4 cX12_may RX12 wqX12_may) (hy : y.2.2.2.2 = 1) {z : Int32 × QM} (hQ : VQ x y (some (.int z.1)) z.2 (some .int)) {k19 : QM → Int32 → Int32 → Option (Int32 × QM)} (hk19 : ∀ {M : QM} {x2 : Int32} {x3 : Int32}, k19 M x2 x3 = some z → V x y 4 M 19 [(0, .ref (ly_o y 1000)), (2, .int x2), (3, .int x3)] []) {M : QM} {x3 : Int32} {s0 : Int32} {s1 : Int32} (hF : fX12_may_b41 k19 M x3 s0 s1 = some z) : V x y 4 M 41 [(0, .ref (ly_o y 1000)), (3, .int x3)] [.int s0, .int s1] := by
  unfold fX12_may_b41 at hF
  refine v_ior (pc := 41) K dX12_may_41 ?_
  refine v_istore_n (pc := 42) (lv' := [(2, .int (s1 ||| s0)), (0, .ref (ly_o y 1000)), (3, .int x3)]) K dX12_may_42 2 rfl (by decide) rfl ?_
  refine v_iinc (pc := 43) (v1 := x3 + (1 : Int32)) (lv' := [(3, .int (x3 + (1 : Int32))), (2, .int (s1 ||| s0)), (0, .ref (ly_o y 1000))]) K dX12_may_43 2 rfl rfl (by decide) rfl ?_
  refine v_goto (pc := 46) (tgt := 19) K dX12_may_46 (by decide) ?_
  refine v_sub [2, 1, 0] rfl ?_
  exact hk19 hF
def fX12_may_b19 : Nat → QM → Int32 → Int32 → Option (Int32 × QM)
  | 0, _, _, _ => none
  | q + 1, M, x2, x3 => if (11 : Int32) ≤ x3 then some (x2, M) else (q_b (fX12_can M x3) fun r9 M10 => if r9 = (0 : Int32) then (fX12_may_b41 (fun M x2 x3 => fX12_may_b19 q M x2 x3) M10 x3 (0 : Int32) x2) else (fX12_may_b41 (fun M x2 x3 => fX12_may_b19 q M x2 x3) M10 x3 ((1 : Int32) <<< (x3 &&& (31 : Int32))) x2))
set_option maxRecDepth 100000 in
set_option maxHeartbeats 4000000 in
theorem bX12_may_19 {x : Cx} {y : Ly} (l : Launch) (K : VK x l rmX12_may y 4 cX12_may RX12 wqX12_may) (hy : y.2.2.2.2 = 1) {z : Int32 × QM} (hQ : VQ x y (some (.int z.1)) z.2 (some .int)) : ∀ (q : Nat) {M : QM} {x2 : Int32} {x3 : Int32},  fX12_may_b19 q M x2 x3 = some z → V x y 4 M 19 [(0, .ref (ly_o y 1000)), (2, .int x2), (3, .int x3)] [] := by
  intro q
  induction q with
  | zero =>
    intro M x2 x3  hF
    rw [fX12_may_b19] at hF
    cases hF
  | succ q ih =>
    intro M x2 x3  hF
    rw [fX12_may_b19] at hF
    refine v_iload_n (pc := 19) K dX12_may_19 2 rfl ?_
    refine v_bipush (pc := 20) (v := 11) K dX12_may_20 rfl ?_
    refine v_icmp_ge (pc := 22) (tgt := 49) K dX12_may_22 (by decide) hF (fun c12 hF => ?_) (fun c12 hF => ?_)
    · refine v_iload_n (pc := 49) K dX12_may_49 1 rfl ?_
      have hz := (Option.some.inj hF).symm
      subst hz
      exact v_iret (pc := 50) K hQ dX12_may_50
    · refine v_iload_n (pc := 25) K dX12_may_25 1 rfl ?_
      refine v_aload_n (pc := 26) K dX12_may_26 0 rfl ?_
      refine v_iload_n (pc := 27) K dX12_may_27 2 rfl ?_
      obtain ⟨r9, M10, hc8, hF⟩ := q_bE hF
      refine v_callV (pc := 28) (ci := 11) (As := [.int x3]) (rest := [.int x2]) (st' := [.int r9, .int x2]) (r := some (.int r9)) (M1 := M10) K (kX12_can l K.2.2.2.2.2.2.1 hy hc8) (jg_V jl_X12_364 jw_i_X12_can jw_s_X12_can jw_n_X12 jw_c_X12_can) rfl rfl rfl jd_X12_can ⟨Nat.le_of_ble_eq_true rfl, Nat.le_of_ble_eq_true rfl⟩ rfl rfl (Nat.le_of_ble_eq_true rfl) (by decide) (okc_1 hy) rfl dX12_may_28 rfl ?_
      refine v_if_eq (pc := 31) (tgt := 40) K dX12_may_31 (by decide) hF (fun c11 hF => ?_) (fun c11 hF => ?_)
      · refine v_iconst (pc := 40) (v := 0) K dX12_may_40 rfl ?_
        refine v_sub [0, 2] rfl ?_
        exact bX12_may_41 l K hy hQ ih hF
      · refine v_iconst (pc := 34) (v := 1) K dX12_may_34 rfl ?_
        refine v_iload_n (pc := 35) K dX12_may_35 2 rfl ?_
        refine v_ishl (pc := 36) K dX12_may_36 ?_
        refine v_goto (pc := 37) (tgt := 41) K dX12_may_37 (by decide) ?_
        refine v_sub [0, 2] rfl ?_
        exact bX12_may_41 l K hy hQ ih hF
def fX12_may (M : QM) (x1 : Int32) : Option (Int32 × QM) := (q_b (fX12_isQuarrel M x1) fun r2 M3 => if r2 ≠ (0 : Int32) then (q_bv (fX12_loadLast M3 x1) fun M6 => (fX12_may_b19 q_F M6 (0 : Int32) (0 : Int32))) else some ((-1 : Int32), M3))
set_option maxRecDepth 100000 in
set_option maxHeartbeats 4000000 in
theorem bX12_may_0 {x : Cx} {y : Ly} (l : Launch) (K : VK x l rmX12_may y 4 cX12_may RX12 wqX12_may) (hy : y.2.2.2.2 = 1) {z : Int32 × QM} (hQ : VQ x y (some (.int z.1)) z.2 (some .int)) {M : QM} {x1 : Int32} (hF : fX12_may M x1 = some z) : V x y 4 M 0 [(0, .ref (ly_o y 1000)), (1, .int x1)] [] := by
  unfold fX12_may at hF
  refine v_aload_n (pc := 0) K dX12_may_0 0 rfl ?_
  refine v_iload_n (pc := 1) K dX12_may_1 1 rfl ?_
  obtain ⟨r2, M3, hc1, hF⟩ := q_bE hF
  refine v_callV (pc := 2) (ci := 11) (As := [.int x1]) (rest := []) (st' := [.int r2]) (r := some (.int r2)) (M1 := M3) K (kX12_isQuarrel l K.2.2.2.2.2.2.1 hy hc1) (jg_V jl_X12_408 jw_i_X12_isQuarrel jw_s_X12_isQuarrel jw_n_X12 jw_c_X12_isQuarrel) rfl rfl rfl jd_X12_isQuarrel ⟨Nat.le_of_ble_eq_true rfl, Nat.le_of_ble_eq_true rfl⟩ rfl rfl (Nat.le_of_ble_eq_true rfl) (by decide) (okc_1 hy) rfl dX12_may_2 rfl ?_
  refine v_if_ne (pc := 5) (tgt := 10) K dX12_may_5 (by decide) hF (fun c7 hF => ?_) (fun c7 hF => ?_)
  · refine v_aload_n (pc := 10) K dX12_may_10 0 rfl ?_
    refine v_iload_n (pc := 11) K dX12_may_11 1 rfl ?_
    obtain ⟨M6, hc4, hF⟩ := q_bvE hF
    refine v_callV (pc := 12) (ci := 11) (As := [.int x1]) (rest := []) (st' := []) (r := none) (M1 := M6) K (kX12_loadLast l K.2.2.2.2.2.2.1 hy hc4) (jg_V jl_X12_413 jw_i_X12_loadLast jw_s_X12_loadLast jw_n_X12 jw_c_X12_loadLast) rfl rfl rfl jd_X12_loadLast ⟨Nat.le_of_ble_eq_true rfl, Nat.le_of_ble_eq_true rfl⟩ rfl rfl (Nat.le_of_ble_eq_true rfl) (by decide) (okc_1 hy) rfl dX12_may_12 rfl ?_
    refine v_iconst (pc := 15) (v := 0) K dX12_may_15 rfl ?_
    refine v_istore_n (pc := 16) (lv' := [(2, .int (0 : Int32)), (0, .ref (ly_o y 1000)), (1, .int x1)]) K dX12_may_16 2 rfl (by decide) rfl ?_
    refine v_iconst (pc := 17) (v := 0) K dX12_may_17 rfl ?_
    refine v_istore_n (pc := 18) (lv' := [(3, .int (0 : Int32)), (2, .int (0 : Int32)), (0, .ref (ly_o y 1000)), (1, .int x1)]) K dX12_may_18 3 rfl (by decide) rfl ?_
    refine v_sub [2, 1, 0] rfl ?_
    exact bX12_may_19 l K hy hQ q_F hF
  · refine v_iconst (pc := 8) (v := -1) K dX12_may_8 rfl ?_
    have hz := (Option.some.inj hF).symm
    subst hz
    exact v_iret (pc := 9) K hQ dX12_may_9
set_option maxRecDepth 100000 in
set_option maxHeartbeats 4000000 in
theorem kX12_may (l : Launch) {y : Ly} (hJ : ly_J y) (hy : y.2.2.2.2 = 1) {M M1 : QM} {r : Int32} {x1 : Int32} (hF : fX12_may M x1 = some (r, M1)) : Met l yX12_may wqX12_may rmX12_may (q_P y [.ref (ly_o y 1000), .int x1] M) (q_E y (some (.int r)) M1) 0 0 (ly_A y) :=
  q_met (by decide) rfl hJ rfl rfl rfl (fun x K hQ => bX12_may_0 l K hy (z := (r, M1)) hQ  hF)
-- ===== X12_move (II)I
theorem jd_X12_move : yX12_move.cls = RX12 ∧ yX12_move.cls ≠ "java/lang/invoke/MethodHandle" ∧ yX12_move.cls ≠ "java/lang/invoke/VarHandle" ∧ (parseMethodDescriptor yX12_move.desc).map (fun d => d.parameters.length) = some 2 := by decide +kernel
abbrev wqX12_move : List Cond := .code yX12_move cX12_move 3 (some .int) :: wsL_law
abbrev rmX12_move : Room := { frames := 5, cells := 0, slots := 0, locals := 126 }
def fX12_move (M : QM) (x1 : Int32) (x2 : Int32) : Option (Int32 × QM) := (q_b (fX12_isQuarrel M x1) fun r2 M3 => if r2 ≠ (0 : Int32) then (q_bv (fX12_loadLast M3 x1) fun M6 => (q_b (fX12_can M6 x2) fun r8 M9 => if r8 ≠ (0 : Int32) then (q_bv (fX12_does M9 x2 (1 : Int32)) fun M12 => (q_bv (fX12_writes M12 x1 x2) fun M15 => some (q_i M15 1000 34, M15))) else some ((-1 : Int32), M9))) else some ((-1 : Int32), M3))
set_option maxRecDepth 100000 in
set_option maxHeartbeats 4000000 in
theorem bX12_move_0 {x : Cx} {y : Ly} (l : Launch) (K : VK x l rmX12_move y 3 cX12_move RX12 wqX12_move) (hy : y.2.2.2.2 = 1) {z : Int32 × QM} (hQ : VQ x y (some (.int z.1)) z.2 (some .int)) {M : QM} {x1 : Int32} {x2 : Int32} (hF : fX12_move M x1 x2 = some z) : V x y 3 M 0 [(0, .ref (ly_o y 1000)), (1, .int x1), (2, .int x2)] [] := by
  unfold fX12_move at hF
  refine v_aload_n (pc := 0) K dX12_move_0 0 rfl ?_
  refine v_iload_n (pc := 1) K dX12_move_1 1 rfl ?_
  obtain ⟨r2, M3, hc1, hF⟩ := q_bE hF
  refine v_callV (pc := 2) (ci := 11) (As := [.int x1]) (rest := []) (st' := [.int r2]) (r := some (.int r2)) (M1 := M3) K (kX12_isQuarrel l K.2.2.2.2.2.2.1 hy hc1) (jg_V jl_X12_408 jw_i_X12_isQuarrel jw_s_X12_isQuarrel jw_n_X12 jw_c_X12_isQuarrel) rfl rfl rfl jd_X12_isQuarrel ⟨Nat.le_of_ble_eq_true rfl, Nat.le_of_ble_eq_true rfl⟩ rfl rfl (Nat.le_of_ble_eq_true rfl) (by decide) (okc_1 hy) rfl dX12_move_2 rfl ?_
  refine v_if_ne (pc := 5) (tgt := 10) K dX12_move_5 (by decide) hF (fun c17 hF => ?_) (fun c17 hF => ?_)
  · refine v_aload_n (pc := 10) K dX12_move_10 0 rfl ?_
    refine v_iload_n (pc := 11) K dX12_move_11 1 rfl ?_
    obtain ⟨M6, hc4, hF⟩ := q_bvE hF
    refine v_callV (pc := 12) (ci := 11) (As := [.int x1]) (rest := []) (st' := []) (r := none) (M1 := M6) K (kX12_loadLast l K.2.2.2.2.2.2.1 hy hc4) (jg_V jl_X12_413 jw_i_X12_loadLast jw_s_X12_loadLast jw_n_X12 jw_c_X12_loadLast) rfl rfl rfl jd_X12_loadLast ⟨Nat.le_of_ble_eq_true rfl, Nat.le_of_ble_eq_true rfl⟩ rfl rfl (Nat.le_of_ble_eq_true rfl) (by decide) (okc_1 hy) rfl dX12_move_12 rfl ?_
    refine v_aload_n (pc := 15) K dX12_move_15 0 rfl ?_
    refine v_iload_n (pc := 16) K dX12_move_16 2 rfl ?_
    obtain ⟨r8, M9, hc7, hF⟩ := q_bE hF
    refine v_callV (pc := 17) (ci := 11) (As := [.int x2]) (rest := []) (st' := [.int r8]) (r := some (.int r8)) (M1 := M9) K (kX12_can l K.2.2.2.2.2.2.1 hy hc7) (jg_V jl_X12_364 jw_i_X12_can jw_s_X12_can jw_n_X12 jw_c_X12_can) rfl rfl rfl jd_X12_can ⟨Nat.le_of_ble_eq_true rfl, Nat.le_of_ble_eq_true rfl⟩ rfl rfl (Nat.le_of_ble_eq_true rfl) (by decide) (okc_1 hy) rfl dX12_move_17 rfl ?_
    refine v_if_ne (pc := 20) (tgt := 25) K dX12_move_20 (by decide) hF (fun c16 hF => ?_) (fun c16 hF => ?_)
    · refine v_aload_n (pc := 25) K dX12_move_25 0 rfl ?_
      refine v_iload_n (pc := 26) K dX12_move_26 2 rfl ?_
      refine v_iconst (pc := 27) (v := 1) K dX12_move_27 rfl ?_
      obtain ⟨M12, hc10, hF⟩ := q_bvE hF
      refine v_callV (pc := 28) (ci := 11) (As := [.int x2, .int (1 : Int32)]) (rest := []) (st' := []) (r := none) (M1 := M12) K (kX12_does l K.2.2.2.2.2.2.1 hy hc10) (jg_V jl_X12_367 jw_i_X12_does jw_s_X12_does jw_n_X12 jw_c_X12_does) rfl rfl rfl jd_X12_does ⟨Nat.le_of_ble_eq_true rfl, Nat.le_of_ble_eq_true rfl⟩ rfl rfl (Nat.le_of_ble_eq_true rfl) (by decide) (okc_1 hy) rfl dX12_move_28 rfl ?_
      refine v_aload_n (pc := 31) K dX12_move_31 0 rfl ?_
      refine v_iload_n (pc := 32) K dX12_move_32 1 rfl ?_
      refine v_iload_n (pc := 33) K dX12_move_33 2 rfl ?_
      obtain ⟨M15, hc13, hF⟩ := q_bvE hF
      refine v_callV (pc := 34) (ci := 11) (As := [.int x1, .int x2]) (rest := []) (st' := []) (r := none) (M1 := M15) K (kX12_writes l K.2.2.2.2.2.2.1 hy hc13) (jg_V jl_X12_405 jw_i_X12_writes jw_s_X12_writes jw_n_X12 jw_c_X12_writes) rfl rfl rfl jd_X12_writes ⟨Nat.le_of_ble_eq_true rfl, Nat.le_of_ble_eq_true rfl⟩ rfl rfl (Nat.le_of_ble_eq_true rfl) (by decide) (okc_1 hy) rfl dX12_move_34 rfl ?_
      refine v_aload_n (pc := 37) K dX12_move_37 0 rfl ?_
      refine gX12_ended (pc := 38) K hy (by decide) jn_X12 (List.mem_cons_of_mem _ jl_X12_347) dX12_move_38 ?_
      have hz := (Option.some.inj hF).symm
      subst hz
      exact v_iret (pc := 41) K hQ dX12_move_41
    · refine v_iconst (pc := 23) (v := -1) K dX12_move_23 rfl ?_
      have hz := (Option.some.inj hF).symm
      subst hz
      exact v_iret (pc := 24) K hQ dX12_move_24
  · refine v_iconst (pc := 8) (v := -1) K dX12_move_8 rfl ?_
    have hz := (Option.some.inj hF).symm
    subst hz
    exact v_iret (pc := 9) K hQ dX12_move_9
set_option maxRecDepth 100000 in
set_option maxHeartbeats 4000000 in
theorem kX12_move (l : Launch) {y : Ly} (hJ : ly_J y) (hy : y.2.2.2.2 = 1) {M M1 : QM} {r : Int32} {x1 : Int32} {x2 : Int32} (hF : fX12_move M x1 x2 = some (r, M1)) : Met l yX12_move wqX12_move rmX12_move (q_P y [.ref (ly_o y 1000), .int x1, .int x2] M) (q_E y (some (.int r)) M1) 0 0 (ly_A y) :=
  q_met (by decide) rfl hJ rfl rfl rfl (fun x K hQ => bX12_move_0 l K hy (z := (r, M1)) hQ  hF)
-- ===== X12_history (II)I
theorem jd_X12_history : yX12_history.cls = RX12 ∧ yX12_history.cls ≠ "java/lang/invoke/MethodHandle" ∧ yX12_history.cls ≠ "java/lang/invoke/VarHandle" ∧ (parseMethodDescriptor yX12_history.desc).map (fun d => d.parameters.length) = some 2 := by decide +kernel
abbrev wqX12_history : List Cond := .code yX12_history cX12_history 3 (some .int) :: wsL_law
abbrev rmX12_history : Room := { frames := 1, cells := 0, slots := 0, locals := 25 }
def fX12_history (M : QM) (x1 : Int32) (x2 : Int32) : Option (Int32 × QM) := (q_b (fX12_isQuarrel M x1) fun r2 M3 => if r2 = (0 : Int32) then some ((-1 : Int32), M3) else (if q_in (((64 : Int32) * x1) + (5 : Int32)) 1536 then (q_t ((q_a M3 1000 43 (((64 : Int32) * x1) + (5 : Int32)).toNatClampNeg) - (1 : Int32)) fun v5 => (q_b (fX12_in M3 (Int32.toInt64 x2) (0 : Int64) (Int32.toInt64 v5)) fun r7 M8 => if r7 = (0 : Int32) then some ((-1 : Int32), M8) else (if q_in ((((64 : Int32) * x1) + (8 : Int32)) + x2) 1536 then (q_t (q_a M8 1000 43 ((((64 : Int32) * x1) + (8 : Int32)) + x2).toNatClampNeg) fun v10 => some (v10, M8)) else none))) else none))
set_option maxRecDepth 100000 in
set_option maxHeartbeats 4000000 in
theorem bX12_history_0 {x : Cx} {y : Ly} (l : Launch) (K : VK x l rmX12_history y 3 cX12_history RX12 wqX12_history) (hy : y.2.2.2.2 = 1) {z : Int32 × QM} (hQ : VQ x y (some (.int z.1)) z.2 (some .int)) {M : QM} {x1 : Int32} {x2 : Int32} (hF : fX12_history M x1 x2 = some z) : V x y 3 M 0 [(0, .ref (ly_o y 1000)), (1, .int x1), (2, .int x2)] [] := by
  unfold fX12_history at hF
  refine v_aload_n (pc := 0) K dX12_history_0 0 rfl ?_
  refine v_iload_n (pc := 1) K dX12_history_1 1 rfl ?_
  obtain ⟨r2, M3, hc1, hF⟩ := q_bE hF
  refine v_callV (pc := 2) (ci := 11) (As := [.int x1]) (rest := []) (st' := [.int r2]) (r := some (.int r2)) (M1 := M3) K (kX12_isQuarrel l K.2.2.2.2.2.2.1 hy hc1) (jg_V jl_X12_408 jw_i_X12_isQuarrel jw_s_X12_isQuarrel jw_n_X12 jw_c_X12_isQuarrel) rfl rfl rfl jd_X12_isQuarrel ⟨Nat.le_of_ble_eq_true rfl, Nat.le_of_ble_eq_true rfl⟩ rfl rfl (Nat.le_of_ble_eq_true rfl) (by decide) (okc_1 hy) rfl dX12_history_2 rfl ?_
  refine v_if_eq (pc := 5) (tgt := 48) K dX12_history_5 (by decide) hF (fun c12 hF => ?_) (fun c12 hF => ?_)
  · refine v_iconst (pc := 48) (v := -1) K dX12_history_48 rfl ?_
    have hz := (Option.some.inj hF).symm
    subst hz
    exact v_iret (pc := 49) K hQ dX12_history_49
  · refine v_iload_n (pc := 8) K dX12_history_8 2 rfl ?_
    refine v_i2l (pc := 9) K dX12_history_9 ?_
    refine v_lconst (pc := 10) (v := 0) K dX12_history_10 rfl ?_
    refine v_aload_n (pc := 11) K dX12_history_11 0 rfl ?_
    refine gX12_told (pc := 12) K hy (by decide) jn_X12 (List.mem_cons_of_mem _ jl_X12_82) dX12_history_12 ?_
    refine v_bipush (pc := 15) (v := 64) K dX12_history_15 rfl ?_
    refine v_iload_n (pc := 17) K dX12_history_17 1 rfl ?_
    refine v_imul (pc := 18) K dX12_history_18 ?_
    refine v_iconst (pc := 19) (v := 5) K dX12_history_19 rfl ?_
    refine v_iadd (pc := 20) K dX12_history_20 ?_
    refine iX12_told (pc := 21) K hy (by decide) hF dX12_history_21 (fun hi4 hF => ?_)
    refine v_iconst (pc := 22) (v := 1) K dX12_history_22 rfl ?_
    refine v_isub (pc := 23) K dX12_history_23 ?_
    refine v_nmI hF (fun v5 hF => ?_)
    refine v_i2l (pc := 24) K dX12_history_24 ?_
    obtain ⟨r7, M8, hc6, hF⟩ := q_bE hF
    refine v_callS (pc := 25) (As := [.long (Int32.toInt64 x2), .long (0 : Int64), .long (Int32.toInt64 v5)]) (rest := []) (st' := [.int r7]) (r := some (.int r7)) (M1 := M8) K (kX12_in l K.2.2.2.2.2.2.1 hy hc6) (jg_S jl_X12_97 jw_t_X12_in jw_n_X12 jw_c_X12_in) rfl rfl rfl jd_X12_in ⟨Nat.le_of_ble_eq_true rfl, Nat.le_of_ble_eq_true rfl⟩ rfl rfl (Nat.le_of_ble_eq_true rfl) dX12_history_25 rfl ?_
    refine v_if_eq (pc := 28) (tgt := 48) K dX12_history_28 (by decide) hF (fun c11 hF => ?_) (fun c11 hF => ?_)
    · refine v_iconst (pc := 48) (v := -1) K dX12_history_48 rfl ?_
      have hz := (Option.some.inj hF).symm
      subst hz
      exact v_iret (pc := 49) K hQ dX12_history_49
    · refine v_aload_n (pc := 31) K dX12_history_31 0 rfl ?_
      refine gX12_told (pc := 32) K hy (by decide) jn_X12 (List.mem_cons_of_mem _ jl_X12_82) dX12_history_32 ?_
      refine v_bipush (pc := 35) (v := 64) K dX12_history_35 rfl ?_
      refine v_iload_n (pc := 37) K dX12_history_37 1 rfl ?_
      refine v_imul (pc := 38) K dX12_history_38 ?_
      refine v_bipush (pc := 39) (v := 8) K dX12_history_39 rfl ?_
      refine v_iadd (pc := 41) K dX12_history_41 ?_
      refine v_iload_n (pc := 42) K dX12_history_42 2 rfl ?_
      refine v_iadd (pc := 43) K dX12_history_43 ?_
      refine iX12_told (pc := 44) K hy (by decide) hF dX12_history_44 (fun hi9 hF => ?_)
      refine v_nmI hF (fun v10 hF => ?_)
      refine v_goto (pc := 45) (tgt := 49) K dX12_history_45 (by decide) ?_
      have hz := (Option.some.inj hF).symm
      subst hz
      exact v_iret (pc := 49) K hQ dX12_history_49
set_option maxRecDepth 100000 in
set_option maxHeartbeats 4000000 in
theorem kX12_history (l : Launch) {y : Ly} (hJ : ly_J y) (hy : y.2.2.2.2 = 1) {M M1 : QM} {r : Int32} {x1 : Int32} {x2 : Int32} (hF : fX12_history M x1 x2 = some (r, M1)) : Met l yX12_history wqX12_history rmX12_history (q_P y [.ref (ly_o y 1000), .int x1, .int x2] M) (q_E y (some (.int r)) M1) 0 0 (ly_A y) :=
  q_met (by decide) rfl hJ rfl rfl rfl (fun x K hQ => bX12_history_0 l K hy (z := (r, M1)) hQ  hF)
-- ===== X12_worksFrom (II)I
theorem jd_X12_worksFrom : yX12_worksFrom.cls = RX12 ∧ yX12_worksFrom.cls ≠ "java/lang/invoke/MethodHandle" ∧ yX12_worksFrom.cls ≠ "java/lang/invoke/VarHandle" ∧ (parseMethodDescriptor yX12_worksFrom.desc).map (fun d => d.parameters.length) = some 2 := by decide +kernel
abbrev wqX12_worksFrom : List Cond := .code yX12_worksFrom cX12_worksFrom 4 (some .int) :: wsL_law
abbrev rmX12_worksFrom : Room := { frames := 7, cells := 0, slots := 0, locals := 175 }
def fX12_worksFrom (M : QM) (x1 : Int32) (x2 : Int32) : Option (Int32 × QM) := (q_bv (fX12_loadLast M x1) fun M3 => if (q_i M3 1000 34) ≤ (0 : Int32) then (q_b (fX12_place M3) fun r5 M6 => (q_bv (fX12_forgets M6) fun M9 => (if q_in r5 13824 then (q_t (p_a M9 1000 36 r5.toNatClampNeg (vp_nar .boolean (1 : Int32))) fun M11 => (q_bv (fX12_works M11 x2) fun M14 => some (r5, M14))) else none))) else some ((-1 : Int32), M3))
set_option maxRecDepth 100000 in
set_option maxHeartbeats 4000000 in
theorem bX12_worksFrom_0 {x : Cx} {y : Ly} (l : Launch) (K : VK x l rmX12_worksFrom y 4 cX12_worksFrom RX12 wqX12_worksFrom) (hy : y.2.2.2.2 = 1) {z : Int32 × QM} (hQ : VQ x y (some (.int z.1)) z.2 (some .int)) {M : QM} {x1 : Int32} {x2 : Int32} (hF : fX12_worksFrom M x1 x2 = some z) : V x y 4 M 0 [(0, .ref (ly_o y 1000)), (1, .int x1), (2, .int x2)] [] := by
  unfold fX12_worksFrom at hF
  refine v_aload_n (pc := 0) K dX12_worksFrom_0 0 rfl ?_
  refine v_iload_n (pc := 1) K dX12_worksFrom_1 1 rfl ?_
  obtain ⟨M3, hc1, hF⟩ := q_bvE hF
  refine v_callV (pc := 2) (ci := 11) (As := [.int x1]) (rest := []) (st' := []) (r := none) (M1 := M3) K (kX12_loadLast l K.2.2.2.2.2.2.1 hy hc1) (jg_V jl_X12_413 jw_i_X12_loadLast jw_s_X12_loadLast jw_n_X12 jw_c_X12_loadLast) rfl rfl rfl jd_X12_loadLast ⟨Nat.le_of_ble_eq_true rfl, Nat.le_of_ble_eq_true rfl⟩ rfl rfl (Nat.le_of_ble_eq_true rfl) (by decide) (okc_1 hy) rfl dX12_worksFrom_2 rfl ?_
  refine v_aload_n (pc := 5) K dX12_worksFrom_5 0 rfl ?_
  refine gX12_ended (pc := 6) K hy (by decide) jn_X12 (List.mem_cons_of_mem _ jl_X12_347) dX12_worksFrom_6 ?_
  refine v_if_le (pc := 9) (tgt := 14) K dX12_worksFrom_9 (by decide) hF (fun c15 hF => ?_) (fun c15 hF => ?_)
  · refine v_aload_n (pc := 14) K dX12_worksFrom_14 0 rfl ?_
    obtain ⟨r5, M6, hc4, hF⟩ := q_bE hF
    refine v_callV (pc := 15) (ci := 11) (As := []) (rest := []) (st' := [.int r5]) (r := some (.int r5)) (M1 := M6) K (kX12_place l K.2.2.2.2.2.2.1 hy hc4) (jg_V jl_X12_371 jw_i_X12_place jw_s_X12_place jw_n_X12 jw_c_X12_place) rfl rfl rfl jd_X12_place ⟨Nat.le_of_ble_eq_true rfl, Nat.le_of_ble_eq_true rfl⟩ rfl rfl (Nat.le_of_ble_eq_true rfl) (by decide) (okc_1 hy) rfl dX12_worksFrom_15 rfl ?_
    refine v_istore_n (pc := 18) (lv' := [(3, .int r5), (0, .ref (ly_o y 1000)), (1, .int x1), (2, .int x2)]) K dX12_worksFrom_18 3 rfl (by decide) rfl ?_
    refine v_aload_n (pc := 19) K dX12_worksFrom_19 1 rfl ?_
    obtain ⟨M9, hc7, hF⟩ := q_bvE hF
    refine v_callV (pc := 20) (ci := 11) (As := []) (rest := []) (st' := []) (r := none) (M1 := M9) K (kX12_forgets l K.2.2.2.2.2.2.1 hy hc7) (jg_V jl_X12_383 jw_i_X12_forgets jw_s_X12_forgets jw_n_X12 jw_c_X12_forgets) rfl rfl rfl jd_X12_forgets ⟨Nat.le_of_ble_eq_true rfl, Nat.le_of_ble_eq_true rfl⟩ rfl rfl (Nat.le_of_ble_eq_true rfl) (by decide) (okc_1 hy) rfl dX12_worksFrom_20 rfl ?_
    refine v_aload_n (pc := 23) K dX12_worksFrom_23 1 rfl ?_
    refine gX12_comes (pc := 24) K hy (by decide) jn_X12 (List.mem_cons_of_mem _ jl_X12_62) dX12_worksFrom_24 ?_
    refine v_iload_n (pc := 27) K dX12_worksFrom_27 0 rfl ?_
    refine v_iconst (pc := 28) (v := 1) K dX12_worksFrom_28 rfl ?_
    refine uX12_comes (pc := 29) K hy (by decide) hF dX12_worksFrom_29 (fun hi10 hF => ?_)
    refine v_nmM hF (fun M11 hF => ?_)
    refine v_aload_n (pc := 30) K dX12_worksFrom_30 1 rfl ?_
    refine v_iload_n (pc := 31) K dX12_worksFrom_31 3 rfl ?_
    obtain ⟨M14, hc12, hF⟩ := q_bvE hF
    refine v_callV (pc := 32) (ci := 11) (As := [.int x2]) (rest := []) (st' := []) (r := none) (M1 := M14) K (kX12_works l K.2.2.2.2.2.2.1 hy hc12) (jg_V jl_X12_386 jw_i_X12_works jw_s_X12_works jw_n_X12 jw_c_X12_works) rfl rfl rfl jd_X12_works ⟨Nat.le_of_ble_eq_true rfl, Nat.le_of_ble_eq_true rfl⟩ rfl rfl (Nat.le_of_ble_eq_true rfl) (by decide) (okc_1 hy) rfl dX12_worksFrom_32 rfl ?_
    refine v_iload_n (pc := 35) K dX12_worksFrom_35 0 rfl ?_
    have hz := (Option.some.inj hF).symm
    subst hz
    exact v_iret (pc := 36) K hQ dX12_worksFrom_36
  · refine v_iconst (pc := 12) (v := -1) K dX12_worksFrom_12 rfl ?_
    have hz := (Option.some.inj hF).symm
    subst hz
    exact v_iret (pc := 13) K hQ dX12_worksFrom_13
set_option maxRecDepth 100000 in
set_option maxHeartbeats 4000000 in
theorem kX12_worksFrom (l : Launch) {y : Ly} (hJ : ly_J y) (hy : y.2.2.2.2 = 1) {M M1 : QM} {r : Int32} {x1 : Int32} {x2 : Int32} (hF : fX12_worksFrom M x1 x2 = some (r, M1)) : Met l yX12_worksFrom wqX12_worksFrom rmX12_worksFrom (q_P y [.ref (ly_o y 1000), .int x1, .int x2] M) (q_E y (some (.int r)) M1) 0 0 (ly_A y) :=
  q_met (by decide) rfl hJ rfl rfl rfl (fun x K hQ => bX12_worksFrom_0 l K hy (z := (r, M1)) hQ  hF)
-- ===== X12_ends (I)I
theorem jd_X12_ends : yX12_ends.cls = RX12 ∧ yX12_ends.cls ≠ "java/lang/invoke/MethodHandle" ∧ yX12_ends.cls ≠ "java/lang/invoke/VarHandle" ∧ (parseMethodDescriptor yX12_ends.desc).map (fun d => d.parameters.length) = some 1 := by decide +kernel
abbrev wqX12_ends : List Cond := .code yX12_ends cX12_ends 3 (some .int) :: wsL_law
abbrev rmX12_ends : Room := { frames := 8, cells := 0, slots := 0, locals := 198 }
def fX12_ends (M : QM) (x1 : Int32) : Option (Int32 × QM) := (q_b (fX12_isQuarrel M x1) fun r2 M3 => if r2 ≠ (0 : Int32) then (q_b (fX12_worksFrom M3 x1 (-1 : Int32)) fun r5 M6 => if (0 : Int32) ≤ r5 then (if q_in r5 13824 then some (q_a M6 1000 39 r5.toNatClampNeg, M6) else none) else (q_b (fX12_outcome M6) fun r9 M10 => some ((1 : Int32) <<< (r9 &&& (31 : Int32)), M10))) else some ((-1 : Int32), M3))
set_option maxRecDepth 100000 in
set_option maxHeartbeats 4000000 in
theorem bX12_ends_0 {x : Cx} {y : Ly} (l : Launch) (K : VK x l rmX12_ends y 3 cX12_ends RX12 wqX12_ends) (hy : y.2.2.2.2 = 1) {z : Int32 × QM} (hQ : VQ x y (some (.int z.1)) z.2 (some .int)) {M : QM} {x1 : Int32} (hF : fX12_ends M x1 = some z) : V x y 3 M 0 [(0, .ref (ly_o y 1000)), (1, .int x1)] [] := by
  unfold fX12_ends at hF
  refine v_aload_n (pc := 0) K dX12_ends_0 0 rfl ?_
  refine v_iload_n (pc := 1) K dX12_ends_1 1 rfl ?_
  obtain ⟨r2, M3, hc1, hF⟩ := q_bE hF
  refine v_callV (pc := 2) (ci := 11) (As := [.int x1]) (rest := []) (st' := [.int r2]) (r := some (.int r2)) (M1 := M3) K (kX12_isQuarrel l K.2.2.2.2.2.2.1 hy hc1) (jg_V jl_X12_408 jw_i_X12_isQuarrel jw_s_X12_isQuarrel jw_n_X12 jw_c_X12_isQuarrel) rfl rfl rfl jd_X12_isQuarrel ⟨Nat.le_of_ble_eq_true rfl, Nat.le_of_ble_eq_true rfl⟩ rfl rfl (Nat.le_of_ble_eq_true rfl) (by decide) (okc_1 hy) rfl dX12_ends_2 rfl ?_
  refine v_if_ne (pc := 5) (tgt := 10) K dX12_ends_5 (by decide) hF (fun c12 hF => ?_) (fun c12 hF => ?_)
  · refine v_aload_n (pc := 10) K dX12_ends_10 0 rfl ?_
    refine v_iload_n (pc := 11) K dX12_ends_11 1 rfl ?_
    refine v_iconst (pc := 12) (v := -1) K dX12_ends_12 rfl ?_
    obtain ⟨r5, M6, hc4, hF⟩ := q_bE hF
    refine v_callV (pc := 13) (ci := 11) (As := [.int x1, .int (-1 : Int32)]) (rest := []) (st' := [.int r5]) (r := some (.int r5)) (M1 := M6) K (kX12_worksFrom l K.2.2.2.2.2.2.1 hy hc4) (jg_V jl_X12_416 jw_i_X12_worksFrom jw_s_X12_worksFrom jw_n_X12 jw_c_X12_worksFrom) rfl rfl rfl jd_X12_worksFrom ⟨Nat.le_of_ble_eq_true rfl, Nat.le_of_ble_eq_true rfl⟩ rfl rfl (Nat.le_of_ble_eq_true rfl) (by decide) (okc_1 hy) rfl dX12_ends_13 rfl ?_
    refine v_istore_n (pc := 16) (lv' := [(2, .int r5), (0, .ref (ly_o y 1000)), (1, .int x1)]) K dX12_ends_16 2 rfl (by decide) rfl ?_
    refine v_iload_n (pc := 17) K dX12_ends_17 0 rfl ?_
    refine v_if_ge (pc := 18) (tgt := 30) K dX12_ends_18 (by decide) hF (fun c11 hF => ?_) (fun c11 hF => ?_)
    · refine v_aload_n (pc := 30) K dX12_ends_30 1 rfl ?_
      refine gX12_endsOf (pc := 31) K hy (by decide) jn_X12 (List.mem_cons_of_mem _ jl_X12_72) dX12_ends_31 ?_
      refine v_iload_n (pc := 34) K dX12_ends_34 0 rfl ?_
      refine iX12_endsOf (pc := 35) K hy (by decide) hF dX12_ends_35 (fun hi7 hF => ?_)
      have hz := (Option.some.inj hF).symm
      subst hz
      exact v_iret (pc := 36) K hQ dX12_ends_36
    · refine v_iconst (pc := 21) (v := 1) K dX12_ends_21 rfl ?_
      refine v_aload_n (pc := 22) K dX12_ends_22 1 rfl ?_
      obtain ⟨r9, M10, hc8, hF⟩ := q_bE hF
      refine v_callV (pc := 23) (ci := 11) (As := []) (rest := [.int (1 : Int32)]) (st' := [.int r9, .int (1 : Int32)]) (r := some (.int r9)) (M1 := M10) K (kX12_outcome l K.2.2.2.2.2.2.1 hy hc8) (jg_V jl_X12_377 jw_i_X12_outcome jw_s_X12_outcome jw_n_X12 jw_c_X12_outcome) rfl rfl rfl jd_X12_outcome ⟨Nat.le_of_ble_eq_true rfl, Nat.le_of_ble_eq_true rfl⟩ rfl rfl (Nat.le_of_ble_eq_true rfl) (by decide) (okc_1 hy) rfl dX12_ends_23 rfl ?_
      refine v_ishl (pc := 26) K dX12_ends_26 ?_
      refine v_goto (pc := 27) (tgt := 36) K dX12_ends_27 (by decide) ?_
      have hz := (Option.some.inj hF).symm
      subst hz
      exact v_iret (pc := 36) K hQ dX12_ends_36
  · refine v_iconst (pc := 8) (v := -1) K dX12_ends_8 rfl ?_
    have hz := (Option.some.inj hF).symm
    subst hz
    exact v_iret (pc := 9) K hQ dX12_ends_9
set_option maxRecDepth 100000 in
set_option maxHeartbeats 4000000 in
theorem kX12_ends (l : Launch) {y : Ly} (hJ : ly_J y) (hy : y.2.2.2.2 = 1) {M M1 : QM} {r : Int32} {x1 : Int32} (hF : fX12_ends M x1 = some (r, M1)) : Met l yX12_ends wqX12_ends rmX12_ends (q_P y [.ref (ly_o y 1000), .int x1] M) (q_E y (some (.int r)) M1) 0 0 (ly_A y) :=
  q_met (by decide) rfl hJ rfl rfl rfl (fun x K hQ => bX12_ends_0 l K hy (z := (r, M1)) hQ  hF)
-- ===== X12_ways (II)J
theorem jd_X12_ways : yX12_ways.cls = RX12 ∧ yX12_ways.cls ≠ "java/lang/invoke/MethodHandle" ∧ yX12_ways.cls ≠ "java/lang/invoke/VarHandle" ∧ (parseMethodDescriptor yX12_ways.desc).map (fun d => d.parameters.length) = some 2 := by decide +kernel
abbrev wqX12_ways : List Cond := .code yX12_ways cX12_ways 4 (some .long) :: wsL_law
abbrev rmX12_ways : Room := { frames := 8, cells := 0, slots := 0, locals := 198 }
def fX12_ways (M : QM) (x1 : Int32) (x2 : Int32) : Option (Int64 × QM) := (q_b (fX12_isQuarrel M x1) fun r2 M3 => if r2 = (0 : Int32) then some ((-1 : Int64), M3) else (q_b (fX12_in M3 (Int32.toInt64 x2) (0 : Int64) (19 : Int64)) fun r5 M6 => if r5 ≠ (0 : Int32) then (q_b (fX12_worksFrom M6 x1 x2) fun r8 M9 => if r8 < (0 : Int32) then (q_b (fX12_outcome M9) fun r11 M12 => if r11 ≠ x2 then some ((0 : Int64), M12) else some ((1 : Int64), M12)) else (if q_in r8 13824 then some (q_l M9 1000 40 r8.toNatClampNeg, M9) else none)) else some ((-1 : Int64), M6)))
set_option maxRecDepth 100000 in
set_option maxHeartbeats 4000000 in
theorem bX12_ways_0 {x : Cx} {y : Ly} (l : Launch) (K : VK x l rmX12_ways y 4 cX12_ways RX12 wqX12_ways) (hy : y.2.2.2.2 = 1) {z : Int64 × QM} (hQ : VQ x y (some (.long z.1)) z.2 (some .long)) {M : QM} {x1 : Int32} {x2 : Int32} (hF : fX12_ways M x1 x2 = some z) : V x y 4 M 0 [(0, .ref (ly_o y 1000)), (1, .int x1), (2, .int x2)] [] := by
  unfold fX12_ways at hF
  refine v_aload_n (pc := 0) K dX12_ways_0 0 rfl ?_
  refine v_iload_n (pc := 1) K dX12_ways_1 1 rfl ?_
  obtain ⟨r2, M3, hc1, hF⟩ := q_bE hF
  refine v_callV (pc := 2) (ci := 11) (As := [.int x1]) (rest := []) (st' := [.int r2]) (r := some (.int r2)) (M1 := M3) K (kX12_isQuarrel l K.2.2.2.2.2.2.1 hy hc1) (jg_V jl_X12_408 jw_i_X12_isQuarrel jw_s_X12_isQuarrel jw_n_X12 jw_c_X12_isQuarrel) rfl rfl rfl jd_X12_isQuarrel ⟨Nat.le_of_ble_eq_true rfl, Nat.le_of_ble_eq_true rfl⟩ rfl rfl (Nat.le_of_ble_eq_true rfl) (by decide) (okc_1 hy) rfl dX12_ways_2 rfl ?_
  refine v_if_eq (pc := 5) (tgt := 20) K dX12_ways_5 (by decide) hF (fun c17 hF => ?_) (fun c17 hF => ?_)
  · refine v_ldc2 (pc := 20) (v := -1) K dX12_ways_20 (List.mem_cons_of_mem _ jl_X12_421) ?_
    have hz := (Option.some.inj hF).symm
    subst hz
    exact v_lret (pc := 23) K hQ dX12_ways_23
  · refine v_iload_n (pc := 8) K dX12_ways_8 2 rfl ?_
    refine v_i2l (pc := 9) K dX12_ways_9 ?_
    refine v_lconst (pc := 10) (v := 0) K dX12_ways_10 rfl ?_
    refine v_ldc2 (pc := 11) (v := 19) K dX12_ways_11 (List.mem_cons_of_mem _ jl_X12_419) ?_
    obtain ⟨r5, M6, hc4, hF⟩ := q_bE hF
    refine v_callS (pc := 14) (As := [.long (Int32.toInt64 x2), .long (0 : Int64), .long (19 : Int64)]) (rest := []) (st' := [.int r5]) (r := some (.int r5)) (M1 := M6) K (kX12_in l K.2.2.2.2.2.2.1 hy hc4) (jg_S jl_X12_97 jw_t_X12_in jw_n_X12 jw_c_X12_in) rfl rfl rfl jd_X12_in ⟨Nat.le_of_ble_eq_true rfl, Nat.le_of_ble_eq_true rfl⟩ rfl rfl (Nat.le_of_ble_eq_true rfl) dX12_ways_14 rfl ?_
    refine v_if_ne (pc := 17) (tgt := 24) K dX12_ways_17 (by decide) hF (fun c16 hF => ?_) (fun c16 hF => ?_)
    · refine v_aload_n (pc := 24) K dX12_ways_24 0 rfl ?_
      refine v_iload_n (pc := 25) K dX12_ways_25 1 rfl ?_
      refine v_iload_n (pc := 26) K dX12_ways_26 2 rfl ?_
      obtain ⟨r8, M9, hc7, hF⟩ := q_bE hF
      refine v_callV (pc := 27) (ci := 11) (As := [.int x1, .int x2]) (rest := []) (st' := [.int r8]) (r := some (.int r8)) (M1 := M9) K (kX12_worksFrom l K.2.2.2.2.2.2.1 hy hc7) (jg_V jl_X12_416 jw_i_X12_worksFrom jw_s_X12_worksFrom jw_n_X12 jw_c_X12_worksFrom) rfl rfl rfl jd_X12_worksFrom ⟨Nat.le_of_ble_eq_true rfl, Nat.le_of_ble_eq_true rfl⟩ rfl rfl (Nat.le_of_ble_eq_true rfl) (by decide) (okc_1 hy) rfl dX12_ways_27 rfl ?_
      refine v_istore_n (pc := 30) (lv' := [(3, .int r8), (0, .ref (ly_o y 1000)), (1, .int x1), (2, .int x2)]) K dX12_ways_30 3 rfl (by decide) rfl ?_
      refine v_iload_n (pc := 31) K dX12_ways_31 0 rfl ?_
      refine v_if_lt (pc := 32) (tgt := 44) K dX12_ways_32 (by decide) hF (fun c15 hF => ?_) (fun c15 hF => ?_)
      · refine v_aload_n (pc := 44) K dX12_ways_44 1 rfl ?_
        obtain ⟨r11, M12, hc10, hF⟩ := q_bE hF
        refine v_callV (pc := 45) (ci := 11) (As := []) (rest := []) (st' := [.int r11]) (r := some (.int r11)) (M1 := M12) K (kX12_outcome l K.2.2.2.2.2.2.1 hy hc10) (jg_V jl_X12_377 jw_i_X12_outcome jw_s_X12_outcome jw_n_X12 jw_c_X12_outcome) rfl rfl rfl jd_X12_outcome ⟨Nat.le_of_ble_eq_true rfl, Nat.le_of_ble_eq_true rfl⟩ rfl rfl (Nat.le_of_ble_eq_true rfl) (by decide) (okc_1 hy) rfl dX12_ways_45 rfl ?_
        refine v_iload_n (pc := 48) K dX12_ways_48 3 rfl ?_
        refine v_icmp_ne (pc := 49) (tgt := 56) K dX12_ways_49 (by decide) hF (fun c13 hF => ?_) (fun c13 hF => ?_)
        · refine v_lconst (pc := 56) (v := 0) K dX12_ways_56 rfl ?_
          have hz := (Option.some.inj hF).symm
          subst hz
          exact v_lret (pc := 57) K hQ dX12_ways_57
        · refine v_lconst (pc := 52) (v := 1) K dX12_ways_52 rfl ?_
          refine v_goto (pc := 53) (tgt := 57) K dX12_ways_53 (by decide) ?_
          have hz := (Option.some.inj hF).symm
          subst hz
          exact v_lret (pc := 57) K hQ dX12_ways_57
      · refine v_aload_n (pc := 35) K dX12_ways_35 1 rfl ?_
        refine gX12_waysOf (pc := 36) K hy (by decide) jn_X12 (List.mem_cons_of_mem _ jl_X12_75) dX12_ways_36 ?_
        refine v_iload_n (pc := 39) K dX12_ways_39 0 rfl ?_
        refine iX12_waysOf (pc := 40) K hy (by decide) hF dX12_ways_40 (fun hi14 hF => ?_)
        refine v_goto (pc := 41) (tgt := 57) K dX12_ways_41 (by decide) ?_
        have hz := (Option.some.inj hF).symm
        subst hz
        exact v_lret (pc := 57) K hQ dX12_ways_57
    · refine v_ldc2 (pc := 20) (v := -1) K dX12_ways_20 (List.mem_cons_of_mem _ jl_X12_421) ?_
      have hz := (Option.some.inj hF).symm
      subst hz
      exact v_lret (pc := 23) K hQ dX12_ways_23
set_option maxRecDepth 100000 in
set_option maxHeartbeats 4000000 in
theorem kX12_ways (l : Launch) {y : Ly} (hJ : ly_J y) (hy : y.2.2.2.2 = 1) {M M1 : QM} {r : Int64} {x1 : Int32} {x2 : Int32} (hF : fX12_ways M x1 x2 = some (r, M1)) : Met l yX12_ways wqX12_ways rmX12_ways (q_P y [.ref (ly_o y 1000), .int x1, .int x2] M) (q_E y (some (.long r)) M1) 0 0 (ly_A y) :=
  q_met (by decide) rfl hJ rfl rfl rfl (fun x K hQ => bX12_ways_0 l K hy (z := (r, M1)) hQ  hF)
-- ===== X12_brief (III)I
theorem jd_X12_brief : yX12_brief.cls = RX12 ∧ yX12_brief.cls ≠ "java/lang/invoke/MethodHandle" ∧ yX12_brief.cls ≠ "java/lang/invoke/VarHandle" ∧ (parseMethodDescriptor yX12_brief.desc).map (fun d => d.parameters.length) = some 3 := by decide +kernel
abbrev wqX12_brief : List Cond := .code yX12_brief cX12_brief 11 (some .int) :: wsL_law
abbrev rmX12_brief : Room := { frames := 8, cells := 0, slots := 0, locals := 198 }
def fX12_brief_b216 (k115 : QM → Int32 → Int32 → Int32 → Int32 → Int32 → Int32 → Int32 → Int32 → Option (Int32 × QM)) (k98 : QM → Int32 → Int32 → Int32 → Int32 → Int32 → Int32 → Option (Int32 × QM)) (M : QM) (x2 : Int32) (x3 : Int32) (x4 : Int32) (x5 : Int32) (x6 : Int32) (x7 : Int32) (x8 : Int32) (x9 : Int32) : Option (Int32 × QM) := (k115 M x2 x3 x4 x5 x6 x7 x8 (x9 + (-1 : Int32)))
set_option maxRecDepth 100000 in
set_option maxHeartbeats 4000000 in
theorem bX12_brief_216 {x : Cx} {y : Ly} (l : Launch) (K : VK x l rmX12_brief y 11 cX12_brief RX12 wqX12_brief) (hy : y.2.2.2.2 = 1) {z : Int32 × QM} (hQ : VQ x y (some (.int z.1)) z.2 (some .int)) {k115 : QM → Int32 → Int32 → Int32 → Int32 → Int32 → Int32 → Int32 → Int32 → Option (Int32 × QM)} (hk115 : ∀ {M : QM} {x2 : Int32} {x3 : Int32} {x4 : Int32} {x5 : Int32} {x6 : Int32} {x7 : Int32} {x8 : Int32} {x9 : Int32}, k115 M x2 x3 x4 x5 x6 x7 x8 x9 = some z → V x y 11 M 115 [(0, .ref (ly_o y 1000)), (2, .int x2), (3, .int x3), (4, .int x4), (5, .int x5), (6, .int x6), (7, .int x7), (8, .int x8), (9, .int x9)] []) {k98 : QM → Int32 → Int32 → Int32 → Int32 → Int32 → Int32 → Option (Int32 × QM)} (hk98 : ∀ {M : QM} {x2 : Int32} {x3 : Int32} {x4 : Int32} {x5 : Int32} {x6 : Int32} {x7 : Int32}, k98 M x2 x3 x4 x5 x6 x7 = some z → V x y 11 M 98 [(0, .ref (ly_o y 1000)), (2, .int x2), (3, .int x3), (4, .int x4), (5, .int x5), (6, .int x6), (7, .int x7)] []) {M : QM} {x2 : Int32} {x3 : Int32} {x4 : Int32} {x5 : Int32} {x6 : Int32} {x7 : Int32} {x8 : Int32} {x9 : Int32} (hF : fX12_brief_b216 k115 k98 M x2 x3 x4 x5 x6 x7 x8 x9 = some z) : V x y 11 M 216 [(0, .ref (ly_o y 1000)), (2, .int x2), (3, .int x3), (4, .int x4), (5, .int x5), (6, .int x6), (7, .int x7), (8, .int x8), (9, .int x9)] [] := by
  unfold fX12_brief_b216 at hF
  refine v_iinc (pc := 216) (v1 := x9 + (-1 : Int32)) (lv' := [(9, .int (x9 + (-1 : Int32))), (0, .ref (ly_o y 1000)), (2, .int x2), (3, .int x3), (4, .int x4), (5, .int x5), (6, .int x6), (7, .int x7), (8, .int x8)]) K dX12_brief_216 8 rfl rfl (by decide) rfl ?_
  refine v_goto (pc := 219) (tgt := 115) K dX12_brief_219 (by decide) ?_
  refine v_sub [1, 2, 3, 4, 5, 6, 7, 8, 0] rfl ?_
  exact hk115 hF
def fX12_brief_b214 (k115 : QM → Int32 → Int32 → Int32 → Int32 → Int32 → Int32 → Int32 → Int32 → Option (Int32 × QM)) (k98 : QM → Int32 → Int32 → Int32 → Int32 → Int32 → Int32 → Option (Int32 × QM)) (M : QM) (x2 : Int32) (x3 : Int32) (x5 : Int32) (x6 : Int32) (x7 : Int32) (x8 : Int32) (x9 : Int32) (s0 : Int32) : Option (Int32 × QM) := (fX12_brief_b216 k115 k98 M x2 x3 s0 x5 x6 x7 x8 x9)
set_option maxRecDepth 100000 in
set_option maxHeartbeats 4000000 in
theorem bX12_brief_214 {x : Cx} {y : Ly} (l : Launch) (K : VK x l rmX12_brief y 11 cX12_brief RX12 wqX12_brief) (hy : y.2.2.2.2 = 1) {z : Int32 × QM} (hQ : VQ x y (some (.int z.1)) z.2 (some .int)) {k115 : QM → Int32 → Int32 → Int32 → Int32 → Int32 → Int32 → Int32 → Int32 → Option (Int32 × QM)} (hk115 : ∀ {M : QM} {x2 : Int32} {x3 : Int32} {x4 : Int32} {x5 : Int32} {x6 : Int32} {x7 : Int32} {x8 : Int32} {x9 : Int32}, k115 M x2 x3 x4 x5 x6 x7 x8 x9 = some z → V x y 11 M 115 [(0, .ref (ly_o y 1000)), (2, .int x2), (3, .int x3), (4, .int x4), (5, .int x5), (6, .int x6), (7, .int x7), (8, .int x8), (9, .int x9)] []) {k98 : QM → Int32 → Int32 → Int32 → Int32 → Int32 → Int32 → Option (Int32 × QM)} (hk98 : ∀ {M : QM} {x2 : Int32} {x3 : Int32} {x4 : Int32} {x5 : Int32} {x6 : Int32} {x7 : Int32}, k98 M x2 x3 x4 x5 x6 x7 = some z → V x y 11 M 98 [(0, .ref (ly_o y 1000)), (2, .int x2), (3, .int x3), (4, .int x4), (5, .int x5), (6, .int x6), (7, .int x7)] []) {M : QM} {x2 : Int32} {x3 : Int32} {x5 : Int32} {x6 : Int32} {x7 : Int32} {x8 : Int32} {x9 : Int32} {s0 : Int32} (hF : fX12_brief_b214 k115 k98 M x2 x3 x5 x6 x7 x8 x9 s0 = some z) : V x y 11 M 214 [(0, .ref (ly_o y 1000)), (2, .int x2), (3, .int x3), (5, .int x5), (6, .int x6), (7, .int x7), (8, .int x8), (9, .int x9)] [.int s0] := by
  unfold fX12_brief_b214 at hF
  refine v_istore (pc := 214) (lv' := [(4, .int s0), (0, .ref (ly_o y 1000)), (2, .int x2), (3, .int x3), (5, .int x5), (6, .int x6), (7, .int x7), (8, .int x8), (9, .int x9)]) K 4 dX12_brief_214 (by decide) rfl ?_
  refine v_sub [1, 2, 3, 0, 4, 5, 6, 7, 8] rfl ?_
  exact bX12_brief_216 l K hy hQ hk115 hk98 hF
def fX12_brief_b178 (k115 : QM → Int32 → Int32 → Int32 → Int32 → Int32 → Int32 → Int32 → Int32 → Option (Int32 × QM)) (k98 : QM → Int32 → Int32 → Int32 → Int32 → Int32 → Int32 → Option (Int32 × QM)) (M : QM) (x2 : Int32) (x3 : Int32) (x4 : Int32) (x5 : Int32) (x6 : Int32) (x7 : Int32) (x8 : Int32) (x9 : Int32) (s0 : Int32) : Option (Int32 × QM) := if (s0 + (1 : Int32)) = (x5 - x7) then if (q_i M 1000 34) ≤ (0 : Int32) then (q_b (fX12_place M) fun r44 M45 => (fX12_brief_b214 k115 k98 M45 x2 x3 x5 x9 x7 x8 x9 r44)) else (fX12_brief_b214 k115 k98 M x2 x3 x5 x9 x7 x8 x9 (-1 : Int32)) else (fX12_brief_b216 k115 k98 M x2 x3 x4 x5 x6 x7 x8 x9)
set_option maxRecDepth 100000 in
set_option maxHeartbeats 4000000 in
theorem bX12_brief_178 {x : Cx} {y : Ly} (l : Launch) (K : VK x l rmX12_brief y 11 cX12_brief RX12 wqX12_brief) (hy : y.2.2.2.2 = 1) {z : Int32 × QM} (hQ : VQ x y (some (.int z.1)) z.2 (some .int)) {k115 : QM → Int32 → Int32 → Int32 → Int32 → Int32 → Int32 → Int32 → Int32 → Option (Int32 × QM)} (hk115 : ∀ {M : QM} {x2 : Int32} {x3 : Int32} {x4 : Int32} {x5 : Int32} {x6 : Int32} {x7 : Int32} {x8 : Int32} {x9 : Int32}, k115 M x2 x3 x4 x5 x6 x7 x8 x9 = some z → V x y 11 M 115 [(0, .ref (ly_o y 1000)), (2, .int x2), (3, .int x3), (4, .int x4), (5, .int x5), (6, .int x6), (7, .int x7), (8, .int x8), (9, .int x9)] []) {k98 : QM → Int32 → Int32 → Int32 → Int32 → Int32 → Int32 → Option (Int32 × QM)} (hk98 : ∀ {M : QM} {x2 : Int32} {x3 : Int32} {x4 : Int32} {x5 : Int32} {x6 : Int32} {x7 : Int32}, k98 M x2 x3 x4 x5 x6 x7 = some z → V x y 11 M 98 [(0, .ref (ly_o y 1000)), (2, .int x2), (3, .int x3), (4, .int x4), (5, .int x5), (6, .int x6), (7, .int x7)] []) {M : QM} {x2 : Int32} {x3 : Int32} {x4 : Int32} {x5 : Int32} {x6 : Int32} {x7 : Int32} {x8 : Int32} {x9 : Int32} {s0 : Int32} (hF : fX12_brief_b178 k115 k98 M x2 x3 x4 x5 x6 x7 x8 x9 s0 = some z) : V x y 11 M 178 [(0, .ref (ly_o y 1000)), (2, .int x2), (3, .int x3), (4, .int x4), (5, .int x5), (6, .int x6), (7, .int x7), (8, .int x8), (9, .int x9)] [.int s0] := by
  unfold fX12_brief_b178 at hF
  refine v_istore (pc := 178) (lv' := [(10, .int s0), (0, .ref (ly_o y 1000)), (2, .int x2), (3, .int x3), (4, .int x4), (5, .int x5), (6, .int x6), (7, .int x7), (8, .int x8), (9, .int x9)]) K 10 dX12_brief_178 (by decide) rfl ?_
  refine v_iload (pc := 180) K dX12_brief_180 0 rfl ?_
  refine v_iconst (pc := 182) (v := 1) K dX12_brief_182 rfl ?_
  refine v_iadd (pc := 183) K dX12_brief_183 ?_
  refine v_iload (pc := 184) K dX12_brief_184 5 rfl ?_
  refine v_iload (pc := 186) K dX12_brief_186 7 rfl ?_
  refine v_isub (pc := 188) K dX12_brief_188 ?_
  refine v_icmp_eq (pc := 189) (tgt := 195) K dX12_brief_189 (by decide) hF (fun c47 hF => ?_) (fun c47 hF => ?_)
  · refine v_iload (pc := 195) K dX12_brief_195 9 rfl ?_
    refine v_istore (pc := 197) (lv' := [(6, .int x9), (10, .int s0), (0, .ref (ly_o y 1000)), (2, .int x2), (3, .int x3), (4, .int x4), (5, .int x5), (7, .int x7), (8, .int x8), (9, .int x9)]) K 6 dX12_brief_197 (by decide) rfl ?_
    refine v_aload_n (pc := 199) K dX12_brief_199 2 rfl ?_
    refine gX12_ended (pc := 200) K hy (by decide) jn_X12 (List.mem_cons_of_mem _ jl_X12_347) dX12_brief_200 ?_
    refine v_if_le (pc := 203) (tgt := 210) K dX12_brief_203 (by decide) hF (fun c46 hF => ?_) (fun c46 hF => ?_)
    · refine v_aload_n (pc := 210) K dX12_brief_210 2 rfl ?_
      obtain ⟨r44, M45, hc43, hF⟩ := q_bE hF
      refine v_callV (pc := 211) (ci := 11) (As := []) (rest := []) (st' := [.int r44]) (r := some (.int r44)) (M1 := M45) K (kX12_place l K.2.2.2.2.2.2.1 hy hc43) (jg_V jl_X12_371 jw_i_X12_place jw_s_X12_place jw_n_X12 jw_c_X12_place) rfl rfl rfl jd_X12_place ⟨Nat.le_of_ble_eq_true rfl, Nat.le_of_ble_eq_true rfl⟩ rfl rfl (Nat.le_of_ble_eq_true rfl) (by decide) (okc_1 hy) rfl dX12_brief_211 rfl ?_
      refine v_sub [2, 3, 4, 6, 0, 7, 8, 9] rfl ?_
      exact bX12_brief_214 l K hy hQ hk115 hk98 hF
    · refine v_iconst (pc := 206) (v := -1) K dX12_brief_206 rfl ?_
      refine v_goto (pc := 207) (tgt := 214) K dX12_brief_207 (by decide) ?_
      refine v_sub [2, 3, 4, 6, 0, 7, 8, 9] rfl ?_
      exact bX12_brief_214 l K hy hQ hk115 hk98 hF
  · refine v_goto (pc := 192) (tgt := 216) K dX12_brief_192 (by decide) ?_
    refine v_sub [1, 2, 3, 4, 5, 6, 7, 8, 9] rfl ?_
    exact bX12_brief_216 l K hy hQ hk115 hk98 hF
def fX12_brief_b222 (k98 : QM → Int32 → Int32 → Int32 → Int32 → Int32 → Int32 → Option (Int32 × QM)) (M : QM) (x2 : Int32) (x3 : Int32) (x4 : Int32) (x5 : Int32) (x6 : Int32) (x7 : Int32) : Option (Int32 × QM) := (k98 M x2 x3 x4 x5 x6 (x7 + (1 : Int32)))
set_option maxRecDepth 100000 in
set_option maxHeartbeats 4000000 in
theorem bX12_brief_222 {x : Cx} {y : Ly} (l : Launch) (K : VK x l rmX12_brief y 11 cX12_brief RX12 wqX12_brief) (hy : y.2.2.2.2 = 1) {z : Int32 × QM} (hQ : VQ x y (some (.int z.1)) z.2 (some .int)) {k98 : QM → Int32 → Int32 → Int32 → Int32 → Int32 → Int32 → Option (Int32 × QM)} (hk98 : ∀ {M : QM} {x2 : Int32} {x3 : Int32} {x4 : Int32} {x5 : Int32} {x6 : Int32} {x7 : Int32}, k98 M x2 x3 x4 x5 x6 x7 = some z → V x y 11 M 98 [(0, .ref (ly_o y 1000)), (2, .int x2), (3, .int x3), (4, .int x4), (5, .int x5), (6, .int x6), (7, .int x7)] []) {M : QM} {x2 : Int32} {x3 : Int32} {x4 : Int32} {x5 : Int32} {x6 : Int32} {x7 : Int32} (hF : fX12_brief_b222 k98 M x2 x3 x4 x5 x6 x7 = some z) : V x y 11 M 222 [(0, .ref (ly_o y 1000)), (2, .int x2), (3, .int x3), (4, .int x4), (5, .int x5), (6, .int x6), (7, .int x7)] [] := by
  unfold fX12_brief_b222 at hF
  refine v_iinc (pc := 222) (v1 := x7 + (1 : Int32)) (lv' := [(7, .int (x7 + (1 : Int32))), (0, .ref (ly_o y 1000)), (2, .int x2), (3, .int x3), (4, .int x4), (5, .int x5), (6, .int x6)]) K dX12_brief_222 6 rfl rfl (by decide) rfl ?_
  refine v_goto (pc := 225) (tgt := 98) K dX12_brief_225 (by decide) ?_
  refine v_sub [1, 2, 3, 4, 5, 6, 0] rfl ?_
  exact hk98 hF
def fX12_brief_b115 (k98 : QM → Int32 → Int32 → Int32 → Int32 → Int32 → Int32 → Option (Int32 × QM)) : Nat → QM → Int32 → Int32 → Int32 → Int32 → Int32 → Int32 → Int32 → Int32 → Option (Int32 × QM)
  | 0, _, _, _, _, _, _, _, _, _ => none
  | q + 1, M, x2, x3, x4, x5, x6, x7, x8, x9 => if x9 < (0 : Int32) then (fX12_brief_b222 k98 M x2 x3 x4 x5 x6 x7) else (q_bv (fX12_goTo M x8) fun M25 => (q_b (fX12_can M25 x9) fun r27 M28 => if r27 ≠ (0 : Int32) then (q_bv (fX12_does M28 x9 (1 : Int32)) fun M31 => if (q_i M31 1000 34) ≤ (0 : Int32) then (q_b (fX12_place M31) fun r33 M34 => (if q_in r33 13824 then (fX12_brief_b178 (fun M x2 x3 x4 x5 x6 x7 x8 x9 => fX12_brief_b115 k98 q M x2 x3 x4 x5 x6 x7 x8 x9) k98 M34 x2 x3 x4 x5 x6 x7 x8 x9 (q_a M34 1000 41 r33.toNatClampNeg)) else none)) else (q_b (fX12_outcome M31) fun r37 M38 => if r37 ≠ x2 then (fX12_brief_b178 (fun M x2 x3 x4 x5 x6 x7 x8 x9 => fX12_brief_b115 k98 q M x2 x3 x4 x5 x6 x7 x8 x9) k98 M38 x2 x3 x4 x5 x6 x7 x8 x9 (99 : Int32)) else (fX12_brief_b178 (fun M x2 x3 x4 x5 x6 x7 x8 x9 => fX12_brief_b115 k98 q M x2 x3 x4 x5 x6 x7 x8 x9) k98 M38 x2 x3 x4 x5 x6 x7 x8 x9 (0 : Int32)))) else (fX12_brief_b216 (fun M x2 x3 x4 x5 x6 x7 x8 x9 => fX12_brief_b115 k98 q M x2 x3 x4 x5 x6 x7 x8 x9) k98 M28 x2 x3 x4 x5 x6 x7 x8 x9)))
set_option maxRecDepth 100000 in
set_option maxHeartbeats 4000000 in
theorem bX12_brief_115 {x : Cx} {y : Ly} (l : Launch) (K : VK x l rmX12_brief y 11 cX12_brief RX12 wqX12_brief) (hy : y.2.2.2.2 = 1) {z : Int32 × QM} (hQ : VQ x y (some (.int z.1)) z.2 (some .int)) {k98 : QM → Int32 → Int32 → Int32 → Int32 → Int32 → Int32 → Option (Int32 × QM)} (hk98 : ∀ {M : QM} {x2 : Int32} {x3 : Int32} {x4 : Int32} {x5 : Int32} {x6 : Int32} {x7 : Int32}, k98 M x2 x3 x4 x5 x6 x7 = some z → V x y 11 M 98 [(0, .ref (ly_o y 1000)), (2, .int x2), (3, .int x3), (4, .int x4), (5, .int x5), (6, .int x6), (7, .int x7)] []) : ∀ (q : Nat) {M : QM} {x2 : Int32} {x3 : Int32} {x4 : Int32} {x5 : Int32} {x6 : Int32} {x7 : Int32} {x8 : Int32} {x9 : Int32},  fX12_brief_b115 k98 q M x2 x3 x4 x5 x6 x7 x8 x9 = some z → V x y 11 M 115 [(0, .ref (ly_o y 1000)), (2, .int x2), (3, .int x3), (4, .int x4), (5, .int x5), (6, .int x6), (7, .int x7), (8, .int x8), (9, .int x9)] [] := by
  intro q
  induction q with
  | zero =>
    intro M x2 x3 x4 x5 x6 x7 x8 x9  hF
    rw [fX12_brief_b115] at hF
    cases hF
  | succ q ih =>
    intro M x2 x3 x4 x5 x6 x7 x8 x9  hF
    rw [fX12_brief_b115] at hF
    refine v_iload (pc := 115) K dX12_brief_115 8 rfl ?_
    refine v_if_lt (pc := 117) (tgt := 222) K dX12_brief_117 (by decide) hF (fun c42 hF => ?_) (fun c42 hF => ?_)
    · refine v_sub [0, 1, 2, 3, 4, 5, 6] rfl ?_
      exact bX12_brief_222 l K hy hQ hk98 hF
    · refine v_aload_n (pc := 120) K dX12_brief_120 0 rfl ?_
      refine v_iload (pc := 121) K dX12_brief_121 7 rfl ?_
      obtain ⟨M25, hc23, hF⟩ := q_bvE hF
      refine v_callV (pc := 123) (ci := 11) (As := [.int x8]) (rest := []) (st' := []) (r := none) (M1 := M25) K (kX12_goTo l K.2.2.2.2.2.2.1 hy hc23) (jg_V jl_X12_361 jw_i_X12_goTo jw_s_X12_goTo jw_n_X12 jw_c_X12_goTo) rfl rfl rfl jd_X12_goTo ⟨Nat.le_of_ble_eq_true rfl, Nat.le_of_ble_eq_true rfl⟩ rfl rfl (Nat.le_of_ble_eq_true rfl) (by decide) (okc_1 hy) rfl dX12_brief_123 rfl ?_
      refine v_aload_n (pc := 126) K dX12_brief_126 0 rfl ?_
      refine v_iload (pc := 127) K dX12_brief_127 8 rfl ?_
      obtain ⟨r27, M28, hc26, hF⟩ := q_bE hF
      refine v_callV (pc := 129) (ci := 11) (As := [.int x9]) (rest := []) (st' := [.int r27]) (r := some (.int r27)) (M1 := M28) K (kX12_can l K.2.2.2.2.2.2.1 hy hc26) (jg_V jl_X12_364 jw_i_X12_can jw_s_X12_can jw_n_X12 jw_c_X12_can) rfl rfl rfl jd_X12_can ⟨Nat.le_of_ble_eq_true rfl, Nat.le_of_ble_eq_true rfl⟩ rfl rfl (Nat.le_of_ble_eq_true rfl) (by decide) (okc_1 hy) rfl dX12_brief_129 rfl ?_
      refine v_if_ne (pc := 132) (tgt := 138) K dX12_brief_132 (by decide) hF (fun c41 hF => ?_) (fun c41 hF => ?_)
      · refine v_aload_n (pc := 138) K dX12_brief_138 0 rfl ?_
        refine v_iload (pc := 139) K dX12_brief_139 8 rfl ?_
        refine v_iconst (pc := 141) (v := 1) K dX12_brief_141 rfl ?_
        obtain ⟨M31, hc29, hF⟩ := q_bvE hF
        refine v_callV (pc := 142) (ci := 11) (As := [.int x9, .int (1 : Int32)]) (rest := []) (st' := []) (r := none) (M1 := M31) K (kX12_does l K.2.2.2.2.2.2.1 hy hc29) (jg_V jl_X12_367 jw_i_X12_does jw_s_X12_does jw_n_X12 jw_c_X12_does) rfl rfl rfl jd_X12_does ⟨Nat.le_of_ble_eq_true rfl, Nat.le_of_ble_eq_true rfl⟩ rfl rfl (Nat.le_of_ble_eq_true rfl) (by decide) (okc_1 hy) rfl dX12_brief_142 rfl ?_
        refine v_aload_n (pc := 145) K dX12_brief_145 0 rfl ?_
        refine gX12_ended (pc := 146) K hy (by decide) jn_X12 (List.mem_cons_of_mem _ jl_X12_347) dX12_brief_146 ?_
        refine v_if_le (pc := 149) (tgt := 169) K dX12_brief_149 (by decide) hF (fun c40 hF => ?_) (fun c40 hF => ?_)
        · refine v_aload_n (pc := 169) K dX12_brief_169 0 rfl ?_
          refine gX12_briefOf (pc := 170) K hy (by decide) jn_X12 (List.mem_cons_of_mem _ jl_X12_79) dX12_brief_170 ?_
          refine v_aload_n (pc := 173) K dX12_brief_173 0 rfl ?_
          obtain ⟨r33, M34, hc32, hF⟩ := q_bE hF
          refine v_callV (pc := 174) (ci := 11) (As := []) (rest := [.ref (ly_a y 1000 41)]) (st' := [.int r33, .ref (ly_a y 1000 41)]) (r := some (.int r33)) (M1 := M34) K (kX12_place l K.2.2.2.2.2.2.1 hy hc32) (jg_V jl_X12_371 jw_i_X12_place jw_s_X12_place jw_n_X12 jw_c_X12_place) rfl rfl rfl jd_X12_place ⟨Nat.le_of_ble_eq_true rfl, Nat.le_of_ble_eq_true rfl⟩ rfl rfl (Nat.le_of_ble_eq_true rfl) (by decide) (okc_1 hy) rfl dX12_brief_174 rfl ?_
          refine iX12_briefOf (pc := 177) K hy (by decide) hF dX12_brief_177 (fun hi35 hF => ?_)
          exact bX12_brief_178 l K hy hQ ih hk98 hF
        · refine v_aload_n (pc := 152) K dX12_brief_152 0 rfl ?_
          obtain ⟨r37, M38, hc36, hF⟩ := q_bE hF
          refine v_callV (pc := 153) (ci := 11) (As := []) (rest := []) (st' := [.int r37]) (r := some (.int r37)) (M1 := M38) K (kX12_outcome l K.2.2.2.2.2.2.1 hy hc36) (jg_V jl_X12_377 jw_i_X12_outcome jw_s_X12_outcome jw_n_X12 jw_c_X12_outcome) rfl rfl rfl jd_X12_outcome ⟨Nat.le_of_ble_eq_true rfl, Nat.le_of_ble_eq_true rfl⟩ rfl rfl (Nat.le_of_ble_eq_true rfl) (by decide) (okc_1 hy) rfl dX12_brief_153 rfl ?_
          refine v_iload_n (pc := 156) K dX12_brief_156 1 rfl ?_
          refine v_icmp_ne (pc := 157) (tgt := 164) K dX12_brief_157 (by decide) hF (fun c39 hF => ?_) (fun c39 hF => ?_)
          · refine v_bipush (pc := 164) (v := 99) K dX12_brief_164 rfl ?_
            refine v_goto (pc := 166) (tgt := 178) K dX12_brief_166 (by decide) ?_
            exact bX12_brief_178 l K hy hQ ih hk98 hF
          · refine v_iconst (pc := 160) (v := 0) K dX12_brief_160 rfl ?_
            refine v_goto (pc := 161) (tgt := 178) K dX12_brief_161 (by decide) ?_
            exact bX12_brief_178 l K hy hQ ih hk98 hF
      · refine v_goto (pc := 135) (tgt := 216) K dX12_brief_135 (by decide) ?_
        exact bX12_brief_216 l K hy hQ ih hk98 hF
def fX12_brief_b98 : Nat → QM → Int32 → Int32 → Int32 → Int32 → Int32 → Int32 → Option (Int32 × QM)
  | 0, _, _, _, _, _, _, _ => none
  | q + 1, M, x2, x3, x4, x5, x6, x7 => if x3 < x7 then some (x6, M) else (fX12_brief_b115 (fun M x2 x3 x4 x5 x6 x7 => fX12_brief_b98 q M x2 x3 x4 x5 x6 x7) q_F M x2 x3 x4 x5 (-1 : Int32) x7 x4 (10 : Int32))
set_option maxRecDepth 100000 in
set_option maxHeartbeats 4000000 in
theorem bX12_brief_98 {x : Cx} {y : Ly} (l : Launch) (K : VK x l rmX12_brief y 11 cX12_brief RX12 wqX12_brief) (hy : y.2.2.2.2 = 1) {z : Int32 × QM} (hQ : VQ x y (some (.int z.1)) z.2 (some .int)) : ∀ (q : Nat) {M : QM} {x2 : Int32} {x3 : Int32} {x4 : Int32} {x5 : Int32} {x6 : Int32} {x7 : Int32},  fX12_brief_b98 q M x2 x3 x4 x5 x6 x7 = some z → V x y 11 M 98 [(0, .ref (ly_o y 1000)), (2, .int x2), (3, .int x3), (4, .int x4), (5, .int x5), (6, .int x6), (7, .int x7)] [] := by
  intro q
  induction q with
  | zero =>
    intro M x2 x3 x4 x5 x6 x7  hF
    rw [fX12_brief_b98] at hF
    cases hF
  | succ q ih =>
    intro M x2 x3 x4 x5 x6 x7  hF
    rw [fX12_brief_b98] at hF
    refine v_iload (pc := 98) K dX12_brief_98 6 rfl ?_
    refine v_iload_n (pc := 100) K dX12_brief_100 2 rfl ?_
    refine v_icmp_gt (pc := 101) (tgt := 228) K dX12_brief_101 (by decide) hF (fun c22 hF => ?_) (fun c22 hF => ?_)
    · refine v_iload (pc := 228) K dX12_brief_228 5 rfl ?_
      have hz := (Option.some.inj hF).symm
      subst hz
      exact v_iret (pc := 230) K hQ dX12_brief_230
    · refine v_iload (pc := 104) K dX12_brief_104 3 rfl ?_
      refine v_istore (pc := 106) (lv' := [(8, .int x4), (0, .ref (ly_o y 1000)), (2, .int x2), (3, .int x3), (4, .int x4), (5, .int x5), (6, .int x6), (7, .int x7)]) K 8 dX12_brief_106 (by decide) rfl ?_
      refine v_iconst (pc := 108) (v := -1) K dX12_brief_108 rfl ?_
      refine v_istore (pc := 109) (lv' := [(6, .int (-1 : Int32)), (8, .int x4), (0, .ref (ly_o y 1000)), (2, .int x2), (3, .int x3), (4, .int x4), (5, .int x5), (7, .int x7)]) K 6 dX12_brief_109 (by decide) rfl ?_
      refine v_bipush (pc := 111) (v := 10) K dX12_brief_111 rfl ?_
      refine v_istore (pc := 113) (lv' := [(9, .int (10 : Int32)), (6, .int (-1 : Int32)), (8, .int x4), (0, .ref (ly_o y 1000)), (2, .int x2), (3, .int x3), (4, .int x4), (5, .int x5), (7, .int x7)]) K 9 dX12_brief_113 (by decide) rfl ?_
      refine v_sub [3, 4, 5, 6, 7, 1, 8, 2, 0] rfl ?_
      exact bX12_brief_115 l K hy hQ ih q_F hF
def fX12_brief_b64 (M : QM) (x2 : Int32) (x3 : Int32) (x4 : Int32) (s0 : Int32) : Option (Int32 × QM) := if s0 ≠ (99 : Int32) then if x3 ≠ (-1 : Int32) then if x3 < s0 then (fX12_brief_b98 q_F M x2 x3 x4 s0 (-1 : Int32) (0 : Int32)) else some ((-1 : Int32), M) else some (s0, M) else some ((-2 : Int32), M)
set_option maxRecDepth 100000 in
set_option maxHeartbeats 4000000 in
theorem bX12_brief_64 {x : Cx} {y : Ly} (l : Launch) (K : VK x l rmX12_brief y 11 cX12_brief RX12 wqX12_brief) (hy : y.2.2.2.2 = 1) {z : Int32 × QM} (hQ : VQ x y (some (.int z.1)) z.2 (some .int)) {M : QM} {x2 : Int32} {x3 : Int32} {x4 : Int32} {s0 : Int32} (hF : fX12_brief_b64 M x2 x3 x4 s0 = some z) : V x y 11 M 64 [(0, .ref (ly_o y 1000)), (2, .int x2), (3, .int x3), (4, .int x4)] [.int s0] := by
  unfold fX12_brief_b64 at hF
  refine v_istore (pc := 64) (lv' := [(5, .int s0), (0, .ref (ly_o y 1000)), (2, .int x2), (3, .int x3), (4, .int x4)]) K 5 dX12_brief_64 (by decide) rfl ?_
  refine v_iload (pc := 66) K dX12_brief_66 0 rfl ?_
  refine v_bipush (pc := 68) (v := 99) K dX12_brief_68 rfl ?_
  refine v_icmp_ne (pc := 70) (tgt := 76) K dX12_brief_70 (by decide) hF (fun c21 hF => ?_) (fun c21 hF => ?_)
  · refine v_iload_n (pc := 76) K dX12_brief_76 3 rfl ?_
    refine v_iconst (pc := 77) (v := -1) K dX12_brief_77 rfl ?_
    refine v_icmp_ne (pc := 78) (tgt := 84) K dX12_brief_78 (by decide) hF (fun c20 hF => ?_) (fun c20 hF => ?_)
    · refine v_iload_n (pc := 84) K dX12_brief_84 3 rfl ?_
      refine v_iload (pc := 85) K dX12_brief_85 0 rfl ?_
      refine v_icmp_lt (pc := 87) (tgt := 92) K dX12_brief_87 (by decide) hF (fun c19 hF => ?_) (fun c19 hF => ?_)
      · refine v_iconst (pc := 92) (v := -1) K dX12_brief_92 rfl ?_
        refine v_istore (pc := 93) (lv' := [(6, .int (-1 : Int32)), (5, .int s0), (0, .ref (ly_o y 1000)), (2, .int x2), (3, .int x3), (4, .int x4)]) K 6 dX12_brief_93 (by decide) rfl ?_
        refine v_iconst (pc := 95) (v := 0) K dX12_brief_95 rfl ?_
        refine v_istore (pc := 96) (lv' := [(7, .int (0 : Int32)), (6, .int (-1 : Int32)), (5, .int s0), (0, .ref (ly_o y 1000)), (2, .int x2), (3, .int x3), (4, .int x4)]) K 7 dX12_brief_96 (by decide) rfl ?_
        refine v_sub [3, 4, 5, 6, 2, 1, 0] rfl ?_
        exact bX12_brief_98 l K hy hQ q_F hF
      · refine v_iconst (pc := 90) (v := -1) K dX12_brief_90 rfl ?_
        have hz := (Option.some.inj hF).symm
        subst hz
        exact v_iret (pc := 91) K hQ dX12_brief_91
    · refine v_iload (pc := 81) K dX12_brief_81 0 rfl ?_
      have hz := (Option.some.inj hF).symm
      subst hz
      exact v_iret (pc := 83) K hQ dX12_brief_83
  · refine v_bipush (pc := 73) (v := -2) K dX12_brief_73 rfl ?_
    have hz := (Option.some.inj hF).symm
    subst hz
    exact v_iret (pc := 75) K hQ dX12_brief_75
def fX12_brief (M : QM) (x1 : Int32) (x2 : Int32) (x3 : Int32) : Option (Int32 × QM) := (q_b (fX12_isQuarrel M x1) fun r2 M3 => if r2 = (0 : Int32) then some ((-1 : Int32), M3) else (q_b (fX12_in M3 (Int32.toInt64 x2) (0 : Int64) (19 : Int64)) fun r5 M6 => if r5 = (0 : Int32) then some ((-1 : Int32), M6) else if (-1 : Int32) ≤ x3 then (q_b (fX12_worksFrom M6 x1 x2) fun r8 M9 => if r8 < (0 : Int32) then (q_b (fX12_outcome M9) fun r11 M12 => if r11 ≠ x2 then (fX12_brief_b64 M12 x2 x3 r8 (99 : Int32)) else (fX12_brief_b64 M12 x2 x3 r8 (0 : Int32))) else (if q_in r8 13824 then (fX12_brief_b64 M9 x2 x3 r8 (q_a M9 1000 41 r8.toNatClampNeg)) else none)) else some ((-1 : Int32), M6)))
set_option maxRecDepth 100000 in
set_option maxHeartbeats 4000000 in
theorem bX12_brief_0 {x : Cx} {y : Ly} (l : Launch) (K : VK x l rmX12_brief y 11 cX12_brief RX12 wqX12_brief) (hy : y.2.2.2.2 = 1) {z : Int32 × QM} (hQ : VQ x y (some (.int z.1)) z.2 (some .int)) {M : QM} {x1 : Int32} {x2 : Int32} {x3 : Int32} (hF : fX12_brief M x1 x2 x3 = some z) : V x y 11 M 0 [(0, .ref (ly_o y 1000)), (1, .int x1), (2, .int x2), (3, .int x3)] [] := by
  unfold fX12_brief at hF
  refine v_aload_n (pc := 0) K dX12_brief_0 0 rfl ?_
  refine v_iload_n (pc := 1) K dX12_brief_1 1 rfl ?_
  obtain ⟨r2, M3, hc1, hF⟩ := q_bE hF
  refine v_callV (pc := 2) (ci := 11) (As := [.int x1]) (rest := []) (st' := [.int r2]) (r := some (.int r2)) (M1 := M3) K (kX12_isQuarrel l K.2.2.2.2.2.2.1 hy hc1) (jg_V jl_X12_408 jw_i_X12_isQuarrel jw_s_X12_isQuarrel jw_n_X12 jw_c_X12_isQuarrel) rfl rfl rfl jd_X12_isQuarrel ⟨Nat.le_of_ble_eq_true rfl, Nat.le_of_ble_eq_true rfl⟩ rfl rfl (Nat.le_of_ble_eq_true rfl) (by decide) (okc_1 hy) rfl dX12_brief_2 rfl ?_
  refine v_if_eq (pc := 5) (tgt := 25) K dX12_brief_5 (by decide) hF (fun c18 hF => ?_) (fun c18 hF => ?_)
  · refine v_iconst (pc := 25) (v := -1) K dX12_brief_25 rfl ?_
    have hz := (Option.some.inj hF).symm
    subst hz
    exact v_iret (pc := 26) K hQ dX12_brief_26
  · refine v_iload_n (pc := 8) K dX12_brief_8 2 rfl ?_
    refine v_i2l (pc := 9) K dX12_brief_9 ?_
    refine v_lconst (pc := 10) (v := 0) K dX12_brief_10 rfl ?_
    refine v_ldc2 (pc := 11) (v := 19) K dX12_brief_11 (List.mem_cons_of_mem _ jl_X12_419) ?_
    obtain ⟨r5, M6, hc4, hF⟩ := q_bE hF
    refine v_callS (pc := 14) (As := [.long (Int32.toInt64 x2), .long (0 : Int64), .long (19 : Int64)]) (rest := []) (st' := [.int r5]) (r := some (.int r5)) (M1 := M6) K (kX12_in l K.2.2.2.2.2.2.1 hy hc4) (jg_S jl_X12_97 jw_t_X12_in jw_n_X12 jw_c_X12_in) rfl rfl rfl jd_X12_in ⟨Nat.le_of_ble_eq_true rfl, Nat.le_of_ble_eq_true rfl⟩ rfl rfl (Nat.le_of_ble_eq_true rfl) dX12_brief_14 rfl ?_
    refine v_if_eq (pc := 17) (tgt := 25) K dX12_brief_17 (by decide) hF (fun c17 hF => ?_) (fun c17 hF => ?_)
    · refine v_iconst (pc := 25) (v := -1) K dX12_brief_25 rfl ?_
      have hz := (Option.some.inj hF).symm
      subst hz
      exact v_iret (pc := 26) K hQ dX12_brief_26
    · refine v_iload_n (pc := 20) K dX12_brief_20 3 rfl ?_
      refine v_iconst (pc := 21) (v := -1) K dX12_brief_21 rfl ?_
      refine v_icmp_ge (pc := 22) (tgt := 27) K dX12_brief_22 (by decide) hF (fun c16 hF => ?_) (fun c16 hF => ?_)
      · refine v_aload_n (pc := 27) K dX12_brief_27 0 rfl ?_
        refine v_iload_n (pc := 28) K dX12_brief_28 1 rfl ?_
        refine v_iload_n (pc := 29) K dX12_brief_29 2 rfl ?_
        obtain ⟨r8, M9, hc7, hF⟩ := q_bE hF
        refine v_callV (pc := 30) (ci := 11) (As := [.int x1, .int x2]) (rest := []) (st' := [.int r8]) (r := some (.int r8)) (M1 := M9) K (kX12_worksFrom l K.2.2.2.2.2.2.1 hy hc7) (jg_V jl_X12_416 jw_i_X12_worksFrom jw_s_X12_worksFrom jw_n_X12 jw_c_X12_worksFrom) rfl rfl rfl jd_X12_worksFrom ⟨Nat.le_of_ble_eq_true rfl, Nat.le_of_ble_eq_true rfl⟩ rfl rfl (Nat.le_of_ble_eq_true rfl) (by decide) (okc_1 hy) rfl dX12_brief_30 rfl ?_
        refine v_istore (pc := 33) (lv' := [(4, .int r8), (0, .ref (ly_o y 1000)), (1, .int x1), (2, .int x2), (3, .int x3)]) K 4 dX12_brief_33 (by decide) rfl ?_
        refine v_iload (pc := 35) K dX12_brief_35 0 rfl ?_
        refine v_if_lt (pc := 37) (tgt := 50) K dX12_brief_37 (by decide) hF (fun c15 hF => ?_) (fun c15 hF => ?_)
        · refine v_aload_n (pc := 50) K dX12_brief_50 1 rfl ?_
          obtain ⟨r11, M12, hc10, hF⟩ := q_bE hF
          refine v_callV (pc := 51) (ci := 11) (As := []) (rest := []) (st' := [.int r11]) (r := some (.int r11)) (M1 := M12) K (kX12_outcome l K.2.2.2.2.2.2.1 hy hc10) (jg_V jl_X12_377 jw_i_X12_outcome jw_s_X12_outcome jw_n_X12 jw_c_X12_outcome) rfl rfl rfl jd_X12_outcome ⟨Nat.le_of_ble_eq_true rfl, Nat.le_of_ble_eq_true rfl⟩ rfl rfl (Nat.le_of_ble_eq_true rfl) (by decide) (okc_1 hy) rfl dX12_brief_51 rfl ?_
          refine v_iload_n (pc := 54) K dX12_brief_54 3 rfl ?_
          refine v_icmp_ne (pc := 55) (tgt := 62) K dX12_brief_55 (by decide) hF (fun c13 hF => ?_) (fun c13 hF => ?_)
          · refine v_bipush (pc := 62) (v := 99) K dX12_brief_62 rfl ?_
            refine v_sub [1, 3, 4, 0] rfl ?_
            exact bX12_brief_64 l K hy hQ hF
          · refine v_iconst (pc := 58) (v := 0) K dX12_brief_58 rfl ?_
            refine v_goto (pc := 59) (tgt := 64) K dX12_brief_59 (by decide) ?_
            refine v_sub [1, 3, 4, 0] rfl ?_
            exact bX12_brief_64 l K hy hQ hF
        · refine v_aload_n (pc := 40) K dX12_brief_40 1 rfl ?_
          refine gX12_briefOf (pc := 41) K hy (by decide) jn_X12 (List.mem_cons_of_mem _ jl_X12_79) dX12_brief_41 ?_
          refine v_iload (pc := 44) K dX12_brief_44 0 rfl ?_
          refine iX12_briefOf (pc := 46) K hy (by decide) hF dX12_brief_46 (fun hi14 hF => ?_)
          refine v_goto (pc := 47) (tgt := 64) K dX12_brief_47 (by decide) ?_
          refine v_sub [1, 3, 4, 0] rfl ?_
          exact bX12_brief_64 l K hy hQ hF
      · refine v_iconst (pc := 25) (v := -1) K dX12_brief_25 rfl ?_
        have hz := (Option.some.inj hF).symm
        subst hz
        exact v_iret (pc := 26) K hQ dX12_brief_26
set_option maxRecDepth 100000 in
set_option maxHeartbeats 4000000 in
theorem kX12_brief (l : Launch) {y : Ly} (hJ : ly_J y) (hy : y.2.2.2.2 = 1) {M M1 : QM} {r : Int32} {x1 : Int32} {x2 : Int32} {x3 : Int32} (hF : fX12_brief M x1 x2 x3 = some (r, M1)) : Met l yX12_brief wqX12_brief rmX12_brief (q_P y [.ref (ly_o y 1000), .int x1, .int x2, .int x3] M) (q_E y (some (.int r)) M1) 0 0 (ly_A y) :=
  q_met (by decide) rfl hJ rfl rfl rfl (fun x K hQ => bX12_brief_0 l K hy (z := (r, M1)) hQ  hF)
-- ===== X12_mustField ()Z
theorem jd_X12_mustField : yX12_mustField.cls = RX12 ∧ yX12_mustField.cls ≠ "java/lang/invoke/MethodHandle" ∧ yX12_mustField.cls ≠ "java/lang/invoke/VarHandle" ∧ (parseMethodDescriptor yX12_mustField.desc).map (fun d => d.parameters.length) = some 0 := by decide +kernel
abbrev wqX12_mustField : List Cond := .code yX12_mustField cX12_mustField 2 (some .boolean) :: wsL_law
abbrev rmX12_mustField : Room := { frames := 7, cells := 0, slots := 0, locals := 175 }
def fX12_mustField (M : QM) : Option (Int32 × QM) := if (q_i M 1000 34) ≤ (0 : Int32) then (q_b (fX12_place M) fun r2 M3 => (q_bv (fX12_forgets M3) fun M6 => (if q_in r2 13824 then (q_t (p_a M6 1000 36 r2.toNatClampNeg (vp_nar .boolean (1 : Int32))) fun M8 => (q_bv (fX12_works M8 (-1 : Int32)) fun M11 => (if q_in r2 13824 then if (q_a M11 1000 39 r2.toNatClampNeg) ≠ (256 : Int32) then some ((0 : Int32), M11) else some ((1 : Int32), M11) else none))) else none))) else if (q_i M 1000 34) ≠ (2 : Int32) then some ((0 : Int32), M) else some ((1 : Int32), M)
set_option maxRecDepth 100000 in
set_option maxHeartbeats 4000000 in
theorem bX12_mustField_0 {x : Cx} {y : Ly} (l : Launch) (K : VK x l rmX12_mustField y 2 cX12_mustField RX12 wqX12_mustField) (hy : y.2.2.2.2 = 1) {z : Int32 × QM} (hQ : VQ x y (some (.int z.1)) z.2 (some .boolean)) {M : QM} (hF : fX12_mustField M  = some z) : V x y 2 M 0 [(0, .ref (ly_o y 1000))] [] := by
  unfold fX12_mustField at hF
  refine v_aload_n (pc := 0) K dX12_mustField_0 0 rfl ?_
  refine gX12_ended (pc := 1) K hy (by decide) jn_X12 (List.mem_cons_of_mem _ jl_X12_347) dX12_mustField_1 ?_
  refine v_if_le (pc := 4) (tgt := 21) K dX12_mustField_4 (by decide) hF (fun c15 hF => ?_) (fun c15 hF => ?_)
  · refine v_aload_n (pc := 21) K dX12_mustField_21 0 rfl ?_
    obtain ⟨r2, M3, hc1, hF⟩ := q_bE hF
    refine v_callV (pc := 22) (ci := 11) (As := []) (rest := []) (st' := [.int r2]) (r := some (.int r2)) (M1 := M3) K (kX12_place l K.2.2.2.2.2.2.1 hy hc1) (jg_V jl_X12_371 jw_i_X12_place jw_s_X12_place jw_n_X12 jw_c_X12_place) rfl rfl rfl jd_X12_place ⟨Nat.le_of_ble_eq_true rfl, Nat.le_of_ble_eq_true rfl⟩ rfl rfl (Nat.le_of_ble_eq_true rfl) (by decide) (okc_1 hy) rfl dX12_mustField_22 rfl ?_
    refine v_istore_n (pc := 25) (lv' := [(1, .int r2), (0, .ref (ly_o y 1000))]) K dX12_mustField_25 1 rfl (by decide) rfl ?_
    refine v_aload_n (pc := 26) K dX12_mustField_26 1 rfl ?_
    obtain ⟨M6, hc4, hF⟩ := q_bvE hF
    refine v_callV (pc := 27) (ci := 11) (As := []) (rest := []) (st' := []) (r := none) (M1 := M6) K (kX12_forgets l K.2.2.2.2.2.2.1 hy hc4) (jg_V jl_X12_383 jw_i_X12_forgets jw_s_X12_forgets jw_n_X12 jw_c_X12_forgets) rfl rfl rfl jd_X12_forgets ⟨Nat.le_of_ble_eq_true rfl, Nat.le_of_ble_eq_true rfl⟩ rfl rfl (Nat.le_of_ble_eq_true rfl) (by decide) (okc_1 hy) rfl dX12_mustField_27 rfl ?_
    refine v_aload_n (pc := 30) K dX12_mustField_30 1 rfl ?_
    refine gX12_comes (pc := 31) K hy (by decide) jn_X12 (List.mem_cons_of_mem _ jl_X12_62) dX12_mustField_31 ?_
    refine v_iload_n (pc := 34) K dX12_mustField_34 0 rfl ?_
    refine v_iconst (pc := 35) (v := 1) K dX12_mustField_35 rfl ?_
    refine uX12_comes (pc := 36) K hy (by decide) hF dX12_mustField_36 (fun hi7 hF => ?_)
    refine v_nmM hF (fun M8 hF => ?_)
    refine v_aload_n (pc := 37) K dX12_mustField_37 1 rfl ?_
    refine v_iconst (pc := 38) (v := -1) K dX12_mustField_38 rfl ?_
    obtain ⟨M11, hc9, hF⟩ := q_bvE hF
    refine v_callV (pc := 39) (ci := 11) (As := [.int (-1 : Int32)]) (rest := []) (st' := []) (r := none) (M1 := M11) K (kX12_works l K.2.2.2.2.2.2.1 hy hc9) (jg_V jl_X12_386 jw_i_X12_works jw_s_X12_works jw_n_X12 jw_c_X12_works) rfl rfl rfl jd_X12_works ⟨Nat.le_of_ble_eq_true rfl, Nat.le_of_ble_eq_true rfl⟩ rfl rfl (Nat.le_of_ble_eq_true rfl) (by decide) (okc_1 hy) rfl dX12_mustField_39 rfl ?_
    refine v_aload_n (pc := 42) K dX12_mustField_42 1 rfl ?_
    refine gX12_endsOf (pc := 43) K hy (by decide) jn_X12 (List.mem_cons_of_mem _ jl_X12_72) dX12_mustField_43 ?_
    refine v_iload_n (pc := 46) K dX12_mustField_46 0 rfl ?_
    refine iX12_endsOf (pc := 47) K hy (by decide) hF dX12_mustField_47 (fun hi12 hF => ?_)
    refine v_sipush (pc := 48) (v := 256) K dX12_mustField_48 rfl ?_
    refine v_icmp_ne (pc := 51) (tgt := 58) K dX12_mustField_51 (by decide) hF (fun c13 hF => ?_) (fun c13 hF => ?_)
    · refine v_iconst (pc := 58) (v := 0) K dX12_mustField_58 rfl ?_
      have hz := (Option.some.inj hF).symm
      subst hz
      exact v_zret (pc := 59) K hQ rfl dX12_mustField_59
    · refine v_iconst (pc := 54) (v := 1) K dX12_mustField_54 rfl ?_
      refine v_goto (pc := 55) (tgt := 59) K dX12_mustField_55 (by decide) ?_
      have hz := (Option.some.inj hF).symm
      subst hz
      exact v_zret (pc := 59) K hQ rfl dX12_mustField_59
  · refine v_aload_n (pc := 7) K dX12_mustField_7 0 rfl ?_
    refine gX12_ended (pc := 8) K hy (by decide) jn_X12 (List.mem_cons_of_mem _ jl_X12_347) dX12_mustField_8 ?_
    refine v_iconst (pc := 11) (v := 2) K dX12_mustField_11 rfl ?_
    refine v_icmp_ne (pc := 12) (tgt := 19) K dX12_mustField_12 (by decide) hF (fun c14 hF => ?_) (fun c14 hF => ?_)
    · refine v_iconst (pc := 19) (v := 0) K dX12_mustField_19 rfl ?_
      have hz := (Option.some.inj hF).symm
      subst hz
      exact v_zret (pc := 20) K hQ rfl dX12_mustField_20
    · refine v_iconst (pc := 15) (v := 1) K dX12_mustField_15 rfl ?_
      refine v_goto (pc := 16) (tgt := 20) K dX12_mustField_16 (by decide) ?_
      have hz := (Option.some.inj hF).symm
      subst hz
      exact v_zret (pc := 20) K hQ rfl dX12_mustField_20
set_option maxRecDepth 100000 in
set_option maxHeartbeats 4000000 in
theorem kX12_mustField (l : Launch) {y : Ly} (hJ : ly_J y) (hy : y.2.2.2.2 = 1) {M M1 : QM} {r : Int32} (hF : fX12_mustField M  = some (r, M1)) : Met l yX12_mustField wqX12_mustField rmX12_mustField (q_P y [.ref (ly_o y 1000)] M) (q_E y (some (.int r)) M1) 0 0 (ly_A y) :=
  q_met (by decide) rfl hJ rfl rfl rfl (fun x K hQ => bX12_mustField_0 l K hy (z := (r, M1)) hQ  hF)
-- ===== X12_must (I)I
theorem jd_X12_must : yX12_must.cls = RX12 ∧ yX12_must.cls ≠ "java/lang/invoke/MethodHandle" ∧ yX12_must.cls ≠ "java/lang/invoke/VarHandle" ∧ (parseMethodDescriptor yX12_must.desc).map (fun d => d.parameters.length) = some 1 := by decide +kernel
abbrev wqX12_must : List Cond := .code yX12_must cX12_must 2 (some .int) :: wsL_law
abbrev rmX12_must : Room := { frames := 8, cells := 0, slots := 0, locals := 196 }
def fX12_must (M : QM) (x1 : Int32) : Option (Int32 × QM) := (q_b (fX12_isQuarrel M x1) fun r2 M3 => if r2 ≠ (0 : Int32) then (q_bv (fX12_loadLast M3 x1) fun M6 => (q_b (fX12_mustField M6) fun r8 M9 => if r8 = (0 : Int32) then some ((0 : Int32), M9) else some ((1 : Int32), M9))) else some ((-1 : Int32), M3))
set_option maxRecDepth 100000 in
set_option maxHeartbeats 4000000 in
theorem bX12_must_0 {x : Cx} {y : Ly} (l : Launch) (K : VK x l rmX12_must y 2 cX12_must RX12 wqX12_must) (hy : y.2.2.2.2 = 1) {z : Int32 × QM} (hQ : VQ x y (some (.int z.1)) z.2 (some .int)) {M : QM} {x1 : Int32} (hF : fX12_must M x1 = some z) : V x y 2 M 0 [(0, .ref (ly_o y 1000)), (1, .int x1)] [] := by
  unfold fX12_must at hF
  refine v_aload_n (pc := 0) K dX12_must_0 0 rfl ?_
  refine v_iload_n (pc := 1) K dX12_must_1 1 rfl ?_
  obtain ⟨r2, M3, hc1, hF⟩ := q_bE hF
  refine v_callV (pc := 2) (ci := 11) (As := [.int x1]) (rest := []) (st' := [.int r2]) (r := some (.int r2)) (M1 := M3) K (kX12_isQuarrel l K.2.2.2.2.2.2.1 hy hc1) (jg_V jl_X12_408 jw_i_X12_isQuarrel jw_s_X12_isQuarrel jw_n_X12 jw_c_X12_isQuarrel) rfl rfl rfl jd_X12_isQuarrel ⟨Nat.le_of_ble_eq_true rfl, Nat.le_of_ble_eq_true rfl⟩ rfl rfl (Nat.le_of_ble_eq_true rfl) (by decide) (okc_1 hy) rfl dX12_must_2 rfl ?_
  refine v_if_ne (pc := 5) (tgt := 10) K dX12_must_5 (by decide) hF (fun c11 hF => ?_) (fun c11 hF => ?_)
  · refine v_aload_n (pc := 10) K dX12_must_10 0 rfl ?_
    refine v_iload_n (pc := 11) K dX12_must_11 1 rfl ?_
    obtain ⟨M6, hc4, hF⟩ := q_bvE hF
    refine v_callV (pc := 12) (ci := 11) (As := [.int x1]) (rest := []) (st' := []) (r := none) (M1 := M6) K (kX12_loadLast l K.2.2.2.2.2.2.1 hy hc4) (jg_V jl_X12_413 jw_i_X12_loadLast jw_s_X12_loadLast jw_n_X12 jw_c_X12_loadLast) rfl rfl rfl jd_X12_loadLast ⟨Nat.le_of_ble_eq_true rfl, Nat.le_of_ble_eq_true rfl⟩ rfl rfl (Nat.le_of_ble_eq_true rfl) (by decide) (okc_1 hy) rfl dX12_must_12 rfl ?_
    refine v_aload_n (pc := 15) K dX12_must_15 0 rfl ?_
    obtain ⟨r8, M9, hc7, hF⟩ := q_bE hF
    refine v_callV (pc := 16) (ci := 11) (As := []) (rest := []) (st' := [.int r8]) (r := some (.int r8)) (M1 := M9) K (kX12_mustField l K.2.2.2.2.2.2.1 hy hc7) (jg_V jl_X12_423 jw_i_X12_mustField jw_s_X12_mustField jw_n_X12 jw_c_X12_mustField) rfl rfl rfl jd_X12_mustField ⟨Nat.le_of_ble_eq_true rfl, Nat.le_of_ble_eq_true rfl⟩ rfl rfl (Nat.le_of_ble_eq_true rfl) (by decide) (okc_1 hy) rfl dX12_must_16 rfl ?_
    refine v_if_eq (pc := 19) (tgt := 26) K dX12_must_19 (by decide) hF (fun c10 hF => ?_) (fun c10 hF => ?_)
    · refine v_iconst (pc := 26) (v := 0) K dX12_must_26 rfl ?_
      have hz := (Option.some.inj hF).symm
      subst hz
      exact v_iret (pc := 27) K hQ dX12_must_27
    · refine v_iconst (pc := 22) (v := 1) K dX12_must_22 rfl ?_
      refine v_goto (pc := 23) (tgt := 27) K dX12_must_23 (by decide) ?_
      have hz := (Option.some.inj hF).symm
      subst hz
      exact v_iret (pc := 27) K hQ dX12_must_27
  · refine v_iconst (pc := 8) (v := -1) K dX12_must_8 rfl ?_
    have hz := (Option.some.inj hF).symm
    subst hz
    exact v_iret (pc := 9) K hQ dX12_must_9
set_option maxRecDepth 100000 in
set_option maxHeartbeats 4000000 in
theorem kX12_must (l : Launch) {y : Ly} (hJ : ly_J y) (hy : y.2.2.2.2 = 1) {M M1 : QM} {r : Int32} {x1 : Int32} (hF : fX12_must M x1 = some (r, M1)) : Met l yX12_must wqX12_must rmX12_must (q_P y [.ref (ly_o y 1000), .int x1] M) (q_E y (some (.int r)) M1) 0 0 (ly_A y) :=
  q_met (by decide) rfl hJ rfl rfl rfl (fun x K hQ => bX12_must_0 l K hy (z := (r, M1)) hQ  hF)
-- ===== X12_late (I)I
theorem jd_X12_late : yX12_late.cls = RX12 ∧ yX12_late.cls ≠ "java/lang/invoke/MethodHandle" ∧ yX12_late.cls ≠ "java/lang/invoke/VarHandle" ∧ (parseMethodDescriptor yX12_late.desc).map (fun d => d.parameters.length) = some 1 := by decide +kernel
abbrev wqX12_late : List Cond := .code yX12_late cX12_late 3 (some .int) :: wsL_law
abbrev rmX12_late : Room := { frames := 8, cells := 0, slots := 0, locals := 196 }
def fX12_late_b40 (M : QM) (x2 : Int32) : Option (Int32 × QM) := some (x2 + (1 : Int32), M)
set_option maxRecDepth 100000 in
set_option maxHeartbeats 4000000 in
theorem bX12_late_40 {x : Cx} {y : Ly} (l : Launch) (K : VK x l rmX12_late y 3 cX12_late RX12 wqX12_late) (hy : y.2.2.2.2 = 1) {z : Int32 × QM} (hQ : VQ x y (some (.int z.1)) z.2 (some .int)) {M : QM} {x2 : Int32} (hF : fX12_late_b40 M x2 = some z) : V x y 3 M 40 [(2, .int x2)] [] := by
  unfold fX12_late_b40 at hF
  refine v_iload_n (pc := 40) K dX12_late_40 0 rfl ?_
  refine v_iconst (pc := 41) (v := 1) K dX12_late_41 rfl ?_
  refine v_iadd (pc := 42) K dX12_late_42 ?_
  have hz := (Option.some.inj hF).symm
  subst hz
  exact v_iret (pc := 43) K hQ dX12_late_43
def fX12_late_b12 : Nat → QM → Int32 → Int32 → Option (Int32 × QM)
  | 0, _, _, _ => none
  | q + 1, M, x1, x2 => (if q_in (((64 : Int32) * x1) + (5 : Int32)) 1536 then if (q_a M 1000 43 (((64 : Int32) * x1) + (5 : Int32)).toNatClampNeg) ≤ x2 then some ((-2 : Int32), M) else (q_bv (fX12_load M x1 x2) fun M8 => (q_b (fX12_mustField M8) fun r10 M11 => if r10 = (0 : Int32) then (fX12_late_b12 q M11 x1 (x2 + (1 : Int32))) else (fX12_late_b40 M11 x2))) else none)
set_option maxRecDepth 100000 in
set_option maxHeartbeats 4000000 in
theorem bX12_late_12 {x : Cx} {y : Ly} (l : Launch) (K : VK x l rmX12_late y 3 cX12_late RX12 wqX12_late) (hy : y.2.2.2.2 = 1) {z : Int32 × QM} (hQ : VQ x y (some (.int z.1)) z.2 (some .int)) : ∀ (q : Nat) {M : QM} {x1 : Int32} {x2 : Int32},  fX12_late_b12 q M x1 x2 = some z → V x y 3 M 12 [(0, .ref (ly_o y 1000)), (1, .int x1), (2, .int x2)] [] := by
  intro q
  induction q with
  | zero =>
    intro M x1 x2  hF
    rw [fX12_late_b12] at hF
    cases hF
  | succ q ih =>
    intro M x1 x2  hF
    rw [fX12_late_b12] at hF
    refine v_iload_n (pc := 12) K dX12_late_12 2 rfl ?_
    refine v_aload_n (pc := 13) K dX12_late_13 0 rfl ?_
    refine gX12_told (pc := 14) K hy (by decide) jn_X12 (List.mem_cons_of_mem _ jl_X12_82) dX12_late_14 ?_
    refine v_bipush (pc := 17) (v := 64) K dX12_late_17 rfl ?_
    refine v_iload_n (pc := 19) K dX12_late_19 1 rfl ?_
    refine v_imul (pc := 20) K dX12_late_20 ?_
    refine v_iconst (pc := 21) (v := 5) K dX12_late_21 rfl ?_
    refine v_iadd (pc := 22) K dX12_late_22 ?_
    refine iX12_told (pc := 23) K hy (by decide) hF dX12_late_23 (fun hi5 hF => ?_)
    refine v_icmp_ge (pc := 24) (tgt := 50) K dX12_late_24 (by decide) hF (fun c13 hF => ?_) (fun c13 hF => ?_)
    · refine v_bipush (pc := 50) (v := -2) K dX12_late_50 rfl ?_
      have hz := (Option.some.inj hF).symm
      subst hz
      exact v_iret (pc := 52) K hQ dX12_late_52
    · refine v_aload_n (pc := 27) K dX12_late_27 0 rfl ?_
      refine v_iload_n (pc := 28) K dX12_late_28 1 rfl ?_
      refine v_iload_n (pc := 29) K dX12_late_29 2 rfl ?_
      obtain ⟨M8, hc6, hF⟩ := q_bvE hF
      refine v_callV (pc := 30) (ci := 11) (As := [.int x1, .int x2]) (rest := []) (st' := []) (r := none) (M1 := M8) K (kX12_load l K.2.2.2.2.2.2.1 hy hc6) (jg_V jl_X12_399 jw_i_X12_load jw_s_X12_load jw_n_X12 jw_c_X12_load) rfl rfl rfl jd_X12_load ⟨Nat.le_of_ble_eq_true rfl, Nat.le_of_ble_eq_true rfl⟩ rfl rfl (Nat.le_of_ble_eq_true rfl) (by decide) (okc_1 hy) rfl dX12_late_30 rfl ?_
      refine v_aload_n (pc := 33) K dX12_late_33 0 rfl ?_
      obtain ⟨r10, M11, hc9, hF⟩ := q_bE hF
      refine v_callV (pc := 34) (ci := 11) (As := []) (rest := []) (st' := [.int r10]) (r := some (.int r10)) (M1 := M11) K (kX12_mustField l K.2.2.2.2.2.2.1 hy hc9) (jg_V jl_X12_423 jw_i_X12_mustField jw_s_X12_mustField jw_n_X12 jw_c_X12_mustField) rfl rfl rfl jd_X12_mustField ⟨Nat.le_of_ble_eq_true rfl, Nat.le_of_ble_eq_true rfl⟩ rfl rfl (Nat.le_of_ble_eq_true rfl) (by decide) (okc_1 hy) rfl dX12_late_34 rfl ?_
      refine v_if_eq (pc := 37) (tgt := 44) K dX12_late_37 (by decide) hF (fun c12 hF => ?_) (fun c12 hF => ?_)
      · refine v_iinc (pc := 44) (v1 := x2 + (1 : Int32)) (lv' := [(2, .int (x2 + (1 : Int32))), (0, .ref (ly_o y 1000)), (1, .int x1)]) K dX12_late_44 2 rfl rfl (by decide) rfl ?_
        refine v_goto (pc := 47) (tgt := 12) K dX12_late_47 (by decide) ?_
        refine v_sub [1, 2, 0] rfl ?_
        exact ih hF
      · refine v_sub [2] rfl ?_
        exact bX12_late_40 l K hy hQ hF
def fX12_late (M : QM) (x1 : Int32) : Option (Int32 × QM) := (q_b (fX12_isQuarrel M x1) fun r2 M3 => if r2 ≠ (0 : Int32) then (fX12_late_b12 q_F M3 x1 (0 : Int32)) else some ((-1 : Int32), M3))
set_option maxRecDepth 100000 in
set_option maxHeartbeats 4000000 in
theorem bX12_late_0 {x : Cx} {y : Ly} (l : Launch) (K : VK x l rmX12_late y 3 cX12_late RX12 wqX12_late) (hy : y.2.2.2.2 = 1) {z : Int32 × QM} (hQ : VQ x y (some (.int z.1)) z.2 (some .int)) {M : QM} {x1 : Int32} (hF : fX12_late M x1 = some z) : V x y 3 M 0 [(0, .ref (ly_o y 1000)), (1, .int x1)] [] := by
  unfold fX12_late at hF
  refine v_aload_n (pc := 0) K dX12_late_0 0 rfl ?_
  refine v_iload_n (pc := 1) K dX12_late_1 1 rfl ?_
  obtain ⟨r2, M3, hc1, hF⟩ := q_bE hF
  refine v_callV (pc := 2) (ci := 11) (As := [.int x1]) (rest := []) (st' := [.int r2]) (r := some (.int r2)) (M1 := M3) K (kX12_isQuarrel l K.2.2.2.2.2.2.1 hy hc1) (jg_V jl_X12_408 jw_i_X12_isQuarrel jw_s_X12_isQuarrel jw_n_X12 jw_c_X12_isQuarrel) rfl rfl rfl jd_X12_isQuarrel ⟨Nat.le_of_ble_eq_true rfl, Nat.le_of_ble_eq_true rfl⟩ rfl rfl (Nat.le_of_ble_eq_true rfl) (by decide) (okc_1 hy) rfl dX12_late_2 rfl ?_
  refine v_if_ne (pc := 5) (tgt := 10) K dX12_late_5 (by decide) hF (fun c4 hF => ?_) (fun c4 hF => ?_)
  · refine v_iconst (pc := 10) (v := 0) K dX12_late_10 rfl ?_
    refine v_istore_n (pc := 11) (lv' := [(2, .int (0 : Int32)), (0, .ref (ly_o y 1000)), (1, .int x1)]) K dX12_late_11 2 rfl (by decide) rfl ?_
    refine v_sub [1, 2, 0] rfl ?_
    exact bX12_late_12 l K hy hQ q_F hF
  · refine v_iconst (pc := 8) (v := -1) K dX12_late_8 rfl ?_
    have hz := (Option.some.inj hF).symm
    subst hz
    exact v_iret (pc := 9) K hQ dX12_late_9
set_option maxRecDepth 100000 in
set_option maxHeartbeats 4000000 in
theorem kX12_late (l : Launch) {y : Ly} (hJ : ly_J y) (hy : y.2.2.2.2 = 1) {M M1 : QM} {r : Int32} {x1 : Int32} (hF : fX12_late M x1 = some (r, M1)) : Met l yX12_late wqX12_late rmX12_late (q_P y [.ref (ly_o y 1000), .int x1] M) (q_E y (some (.int r)) M1) 0 0 (ly_A y) :=
  q_met (by decide) rfl hJ rfl rfl rfl (fun x K hQ => bX12_late_0 l K hy (z := (r, M1)) hQ  hF)
-- ===== X12_game (II)I
theorem jd_X12_game : yX12_game.cls = RX12 ∧ yX12_game.cls ≠ "java/lang/invoke/MethodHandle" ∧ yX12_game.cls ≠ "java/lang/invoke/VarHandle" ∧ (parseMethodDescriptor yX12_game.desc).map (fun d => d.parameters.length) = some 2 := by decide +kernel
abbrev wqX12_game : List Cond := .code yX12_game cX12_game 4 (some .int) :: wsL_law
abbrev rmX12_game : Room := { frames := 8, cells := 0, slots := 0, locals := 198 }
def fX12_game (M : QM) (x1 : Int32) (x2 : Int32) : Option (Int32 × QM) := (q_b (fX12_isQuarrel M x1) fun r2 M3 => if r2 = (0 : Int32) then some ((-1 : Int32), M3) else (q_b (fX12_in M3 (Int32.toInt64 x2) (0 : Int64) (1 : Int64)) fun r5 M6 => if r5 ≠ (0 : Int32) then (q_b (fX12_worksFrom M6 x1 (-1 : Int32)) fun r8 M9 => if (0 : Int32) ≤ r8 then if x2 ≠ (0 : Int32) then (if q_in r8 13824 then some (q_a M9 1000 38 r8.toNatClampNeg, M9) else none) else (if q_in r8 13824 then some (q_a M9 1000 37 r8.toNatClampNeg, M9) else none) else if x2 ≠ (0 : Int32) then some ((-1 : Int32), M9) else (q_b (fX12_outcome M9) fun r14 M15 => some (r14, M15))) else some ((-1 : Int32), M6)))
set_option maxRecDepth 100000 in
set_option maxHeartbeats 4000000 in
theorem bX12_game_0 {x : Cx} {y : Ly} (l : Launch) (K : VK x l rmX12_game y 4 cX12_game RX12 wqX12_game) (hy : y.2.2.2.2 = 1) {z : Int32 × QM} (hQ : VQ x y (some (.int z.1)) z.2 (some .int)) {M : QM} {x1 : Int32} {x2 : Int32} (hF : fX12_game M x1 x2 = some z) : V x y 4 M 0 [(0, .ref (ly_o y 1000)), (1, .int x1), (2, .int x2)] [] := by
  unfold fX12_game at hF
  refine v_aload_n (pc := 0) K dX12_game_0 0 rfl ?_
  refine v_iload_n (pc := 1) K dX12_game_1 1 rfl ?_
  obtain ⟨r2, M3, hc1, hF⟩ := q_bE hF
  refine v_callV (pc := 2) (ci := 11) (As := [.int x1]) (rest := []) (st' := [.int r2]) (r := some (.int r2)) (M1 := M3) K (kX12_isQuarrel l K.2.2.2.2.2.2.1 hy hc1) (jg_V jl_X12_408 jw_i_X12_isQuarrel jw_s_X12_isQuarrel jw_n_X12 jw_c_X12_isQuarrel) rfl rfl rfl jd_X12_isQuarrel ⟨Nat.le_of_ble_eq_true rfl, Nat.le_of_ble_eq_true rfl⟩ rfl rfl (Nat.le_of_ble_eq_true rfl) (by decide) (okc_1 hy) rfl dX12_game_2 rfl ?_
  refine v_if_eq (pc := 5) (tgt := 18) K dX12_game_5 (by decide) hF (fun c19 hF => ?_) (fun c19 hF => ?_)
  · refine v_iconst (pc := 18) (v := -1) K dX12_game_18 rfl ?_
    have hz := (Option.some.inj hF).symm
    subst hz
    exact v_iret (pc := 19) K hQ dX12_game_19
  · refine v_iload_n (pc := 8) K dX12_game_8 2 rfl ?_
    refine v_i2l (pc := 9) K dX12_game_9 ?_
    refine v_lconst (pc := 10) (v := 0) K dX12_game_10 rfl ?_
    refine v_lconst (pc := 11) (v := 1) K dX12_game_11 rfl ?_
    obtain ⟨r5, M6, hc4, hF⟩ := q_bE hF
    refine v_callS (pc := 12) (As := [.long (Int32.toInt64 x2), .long (0 : Int64), .long (1 : Int64)]) (rest := []) (st' := [.int r5]) (r := some (.int r5)) (M1 := M6) K (kX12_in l K.2.2.2.2.2.2.1 hy hc4) (jg_S jl_X12_97 jw_t_X12_in jw_n_X12 jw_c_X12_in) rfl rfl rfl jd_X12_in ⟨Nat.le_of_ble_eq_true rfl, Nat.le_of_ble_eq_true rfl⟩ rfl rfl (Nat.le_of_ble_eq_true rfl) dX12_game_12 rfl ?_
    refine v_if_ne (pc := 15) (tgt := 20) K dX12_game_15 (by decide) hF (fun c18 hF => ?_) (fun c18 hF => ?_)
    · refine v_aload_n (pc := 20) K dX12_game_20 0 rfl ?_
      refine v_iload_n (pc := 21) K dX12_game_21 1 rfl ?_
      refine v_iconst (pc := 22) (v := -1) K dX12_game_22 rfl ?_
      obtain ⟨r8, M9, hc7, hF⟩ := q_bE hF
      refine v_callV (pc := 23) (ci := 11) (As := [.int x1, .int (-1 : Int32)]) (rest := []) (st' := [.int r8]) (r := some (.int r8)) (M1 := M9) K (kX12_worksFrom l K.2.2.2.2.2.2.1 hy hc7) (jg_V jl_X12_416 jw_i_X12_worksFrom jw_s_X12_worksFrom jw_n_X12 jw_c_X12_worksFrom) rfl rfl rfl jd_X12_worksFrom ⟨Nat.le_of_ble_eq_true rfl, Nat.le_of_ble_eq_true rfl⟩ rfl rfl (Nat.le_of_ble_eq_true rfl) (by decide) (okc_1 hy) rfl dX12_game_23 rfl ?_
      refine v_istore_n (pc := 26) (lv' := [(3, .int r8), (0, .ref (ly_o y 1000)), (1, .int x1), (2, .int x2)]) K dX12_game_26 3 rfl (by decide) rfl ?_
      refine v_iload_n (pc := 27) K dX12_game_27 0 rfl ?_
      refine v_if_ge (pc := 28) (tgt := 44) K dX12_game_28 (by decide) hF (fun c17 hF => ?_) (fun c17 hF => ?_)
      · refine v_iload_n (pc := 44) K dX12_game_44 3 rfl ?_
        refine v_if_ne (pc := 45) (tgt := 57) K dX12_game_45 (by decide) hF (fun c12 hF => ?_) (fun c12 hF => ?_)
        · refine v_aload_n (pc := 57) K dX12_game_57 1 rfl ?_
          refine gX12_gameMove (pc := 58) K hy (by decide) jn_X12 (List.mem_cons_of_mem _ jl_X12_69) dX12_game_58 ?_
          refine v_iload_n (pc := 61) K dX12_game_61 0 rfl ?_
          refine iX12_gameMove (pc := 62) K hy (by decide) hF dX12_game_62 (fun hi10 hF => ?_)
          have hz := (Option.some.inj hF).symm
          subst hz
          exact v_iret (pc := 63) K hQ dX12_game_63
        · refine v_aload_n (pc := 48) K dX12_game_48 1 rfl ?_
          refine gX12_gameOf (pc := 49) K hy (by decide) jn_X12 (List.mem_cons_of_mem _ jl_X12_66) dX12_game_49 ?_
          refine v_iload_n (pc := 52) K dX12_game_52 0 rfl ?_
          refine iX12_gameOf (pc := 53) K hy (by decide) hF dX12_game_53 (fun hi11 hF => ?_)
          refine v_goto (pc := 54) (tgt := 63) K dX12_game_54 (by decide) ?_
          have hz := (Option.some.inj hF).symm
          subst hz
          exact v_iret (pc := 63) K hQ dX12_game_63
      · refine v_iload_n (pc := 31) K dX12_game_31 3 rfl ?_
        refine v_if_ne (pc := 32) (tgt := 42) K dX12_game_32 (by decide) hF (fun c16 hF => ?_) (fun c16 hF => ?_)
        · refine v_iconst (pc := 42) (v := -1) K dX12_game_42 rfl ?_
          have hz := (Option.some.inj hF).symm
          subst hz
          exact v_iret (pc := 43) K hQ dX12_game_43
        · refine v_aload_n (pc := 35) K dX12_game_35 1 rfl ?_
          obtain ⟨r14, M15, hc13, hF⟩ := q_bE hF
          refine v_callV (pc := 36) (ci := 11) (As := []) (rest := []) (st' := [.int r14]) (r := some (.int r14)) (M1 := M15) K (kX12_outcome l K.2.2.2.2.2.2.1 hy hc13) (jg_V jl_X12_377 jw_i_X12_outcome jw_s_X12_outcome jw_n_X12 jw_c_X12_outcome) rfl rfl rfl jd_X12_outcome ⟨Nat.le_of_ble_eq_true rfl, Nat.le_of_ble_eq_true rfl⟩ rfl rfl (Nat.le_of_ble_eq_true rfl) (by decide) (okc_1 hy) rfl dX12_game_36 rfl ?_
          refine v_goto (pc := 39) (tgt := 43) K dX12_game_39 (by decide) ?_
          have hz := (Option.some.inj hF).symm
          subst hz
          exact v_iret (pc := 43) K hQ dX12_game_43
    · refine v_iconst (pc := 18) (v := -1) K dX12_game_18 rfl ?_
      have hz := (Option.some.inj hF).symm
      subst hz
      exact v_iret (pc := 19) K hQ dX12_game_19
set_option maxRecDepth 100000 in
set_option maxHeartbeats 4000000 in
theorem kX12_game (l : Launch) {y : Ly} (hJ : ly_J y) (hy : y.2.2.2.2 = 1) {M M1 : QM} {r : Int32} {x1 : Int32} {x2 : Int32} (hF : fX12_game M x1 x2 = some (r, M1)) : Met l yX12_game wqX12_game rmX12_game (q_P y [.ref (ly_o y 1000), .int x1, .int x2] M) (q_E y (some (.int r)) M1) 0 0 (ly_A y) :=
  q_met (by decide) rfl hJ rfl rfl rfl (fun x K hQ => bX12_game_0 l K hy (z := (r, M1)) hQ  hF)
-- ===== X12_otherwise (III)I
theorem jd_X12_otherwise : yX12_otherwise.cls = RX12 ∧ yX12_otherwise.cls ≠ "java/lang/invoke/MethodHandle" ∧ yX12_otherwise.cls ≠ "java/lang/invoke/VarHandle" ∧ (parseMethodDescriptor yX12_otherwise.desc).map (fun d => d.parameters.length) = some 3 := by decide +kernel
abbrev wqX12_otherwise : List Cond := .code yX12_otherwise cX12_otherwise 5 (some .int) :: wsL_law
abbrev rmX12_otherwise : Room := { frames := 8, cells := 0, slots := 0, locals := 196 }
def fX12_otherwise_b139 (M : QM) : Option (Int32 × QM) := (q_b (fX12_plays M) fun r38 M39 => some (r38, M39))
set_option maxRecDepth 100000 in
set_option maxHeartbeats 4000000 in
theorem bX12_otherwise_139 {x : Cx} {y : Ly} (l : Launch) (K : VK x l rmX12_otherwise y 5 cX12_otherwise RX12 wqX12_otherwise) (hy : y.2.2.2.2 = 1) {z : Int32 × QM} (hQ : VQ x y (some (.int z.1)) z.2 (some .int)) {M : QM} (hF : fX12_otherwise_b139 M  = some z) : V x y 5 M 139 [(0, .ref (ly_o y 1000))] [] := by
  unfold fX12_otherwise_b139 at hF
  refine v_aload_n (pc := 139) K dX12_otherwise_139 0 rfl ?_
  obtain ⟨r38, M39, hc37, hF⟩ := q_bE hF
  refine v_callV (pc := 140) (ci := 11) (As := []) (rest := []) (st' := [.int r38]) (r := some (.int r38)) (M1 := M39) K (kX12_plays l K.2.2.2.2.2.2.1 hy hc37) (jg_V jl_X12_426 jw_i_X12_plays jw_s_X12_plays jw_n_X12 jw_c_X12_plays) rfl rfl rfl jd_X12_plays ⟨Nat.le_of_ble_eq_true rfl, Nat.le_of_ble_eq_true rfl⟩ rfl rfl (Nat.le_of_ble_eq_true rfl) (by decide) (okc_1 hy) rfl dX12_otherwise_140 rfl ?_
  have hz := (Option.some.inj hF).symm
  subst hz
  exact v_iret (pc := 143) K hQ dX12_otherwise_143
def fX12_otherwise_b75 : Nat → QM → Int32 → Int32 → Option (Int32 × QM)
  | 0, _, _, _ => none
  | q + 1, M, x1, x4 => (if q_in (((64 : Int32) * x1) + (5 : Int32)) 1536 then if (q_a M 1000 43 (((64 : Int32) * x1) + (5 : Int32)).toNatClampNeg) ≤ x4 then (fX12_otherwise_b139 M) else (if q_in ((((64 : Int32) * x1) + (8 : Int32)) + x4) 1536 then (q_b (fX12_can M (q_a M 1000 43 ((((64 : Int32) * x1) + (8 : Int32)) + x4).toNatClampNeg)) fun r28 M29 => if r28 = (0 : Int32) then (fX12_otherwise_b139 M29) else (if q_in ((((64 : Int32) * x1) + (8 : Int32)) + x4) 1536 then (q_t (q_a M29 1000 43 ((((64 : Int32) * x1) + (8 : Int32)) + x4).toNatClampNeg) fun v31 => (q_bv (fX12_does M29 v31 (1 : Int32)) fun M34 => (fX12_otherwise_b75 q M34 x1 (x4 + (1 : Int32))))) else none)) else none) else none)
set_option maxRecDepth 100000 in
set_option maxHeartbeats 4000000 in
theorem bX12_otherwise_75 {x : Cx} {y : Ly} (l : Launch) (K : VK x l rmX12_otherwise y 5 cX12_otherwise RX12 wqX12_otherwise) (hy : y.2.2.2.2 = 1) {z : Int32 × QM} (hQ : VQ x y (some (.int z.1)) z.2 (some .int)) : ∀ (q : Nat) {M : QM} {x1 : Int32} {x4 : Int32},  fX12_otherwise_b75 q M x1 x4 = some z → V x y 5 M 75 [(0, .ref (ly_o y 1000)), (1, .int x1), (4, .int x4)] [] := by
  intro q
  induction q with
  | zero =>
    intro M x1 x4  hF
    rw [fX12_otherwise_b75] at hF
    cases hF
  | succ q ih =>
    intro M x1 x4  hF
    rw [fX12_otherwise_b75] at hF
    refine v_iload (pc := 75) K dX12_otherwise_75 2 rfl ?_
    refine v_aload_n (pc := 77) K dX12_otherwise_77 0 rfl ?_
    refine gX12_told (pc := 78) K hy (by decide) jn_X12 (List.mem_cons_of_mem _ jl_X12_82) dX12_otherwise_78 ?_
    refine v_bipush (pc := 81) (v := 64) K dX12_otherwise_81 rfl ?_
    refine v_iload_n (pc := 83) K dX12_otherwise_83 1 rfl ?_
    refine v_imul (pc := 84) K dX12_otherwise_84 ?_
    refine v_iconst (pc := 85) (v := 5) K dX12_otherwise_85 rfl ?_
    refine v_iadd (pc := 86) K dX12_otherwise_86 ?_
    refine iX12_told (pc := 87) K hy (by decide) hF dX12_otherwise_87 (fun hi25 hF => ?_)
    refine v_icmp_ge (pc := 88) (tgt := 139) K dX12_otherwise_88 (by decide) hF (fun c36 hF => ?_) (fun c36 hF => ?_)
    · refine v_sub [0] rfl ?_
      exact bX12_otherwise_139 l K hy hQ hF
    · refine v_aload_n (pc := 91) K dX12_otherwise_91 0 rfl ?_
      refine v_aload_n (pc := 92) K dX12_otherwise_92 0 rfl ?_
      refine gX12_told (pc := 93) K hy (by decide) jn_X12 (List.mem_cons_of_mem _ jl_X12_82) dX12_otherwise_93 ?_
      refine v_bipush (pc := 96) (v := 64) K dX12_otherwise_96 rfl ?_
      refine v_iload_n (pc := 98) K dX12_otherwise_98 1 rfl ?_
      refine v_imul (pc := 99) K dX12_otherwise_99 ?_
      refine v_bipush (pc := 100) (v := 8) K dX12_otherwise_100 rfl ?_
      refine v_iadd (pc := 102) K dX12_otherwise_102 ?_
      refine v_iload (pc := 103) K dX12_otherwise_103 2 rfl ?_
      refine v_iadd (pc := 105) K dX12_otherwise_105 ?_
      refine iX12_told (pc := 106) K hy (by decide) hF dX12_otherwise_106 (fun hi26 hF => ?_)
      obtain ⟨r28, M29, hc27, hF⟩ := q_bE hF
      refine v_callV (pc := 107) (ci := 11) (As := [.int (q_a M 1000 43 ((((64 : Int32) * x1) + (8 : Int32)) + x4).toNatClampNeg)]) (rest := []) (st' := [.int r28]) (r := some (.int r28)) (M1 := M29) K (kX12_can l K.2.2.2.2.2.2.1 hy hc27) (jg_V jl_X12_364 jw_i_X12_can jw_s_X12_can jw_n_X12 jw_c_X12_can) rfl rfl rfl jd_X12_can ⟨Nat.le_of_ble_eq_true rfl, Nat.le_of_ble_eq_true rfl⟩ rfl rfl (Nat.le_of_ble_eq_true rfl) (by decide) (okc_1 hy) rfl dX12_otherwise_107 rfl ?_
      refine v_if_eq (pc := 110) (tgt := 139) K dX12_otherwise_110 (by decide) hF (fun c35 hF => ?_) (fun c35 hF => ?_)
      · refine v_sub [0] rfl ?_
        exact bX12_otherwise_139 l K hy hQ hF
      · refine v_aload_n (pc := 113) K dX12_otherwise_113 0 rfl ?_
        refine v_aload_n (pc := 114) K dX12_otherwise_114 0 rfl ?_
        refine gX12_told (pc := 115) K hy (by decide) jn_X12 (List.mem_cons_of_mem _ jl_X12_82) dX12_otherwise_115 ?_
        refine v_bipush (pc := 118) (v := 64) K dX12_otherwise_118 rfl ?_
        refine v_iload_n (pc := 120) K dX12_otherwise_120 1 rfl ?_
        refine v_imul (pc := 121) K dX12_otherwise_121 ?_
        refine v_bipush (pc := 122) (v := 8) K dX12_otherwise_122 rfl ?_
        refine v_iadd (pc := 124) K dX12_otherwise_124 ?_
        refine v_iload (pc := 125) K dX12_otherwise_125 2 rfl ?_
        refine v_iadd (pc := 127) K dX12_otherwise_127 ?_
        refine iX12_told (pc := 128) K hy (by decide) hF dX12_otherwise_128 (fun hi30 hF => ?_)
        refine v_nmI hF (fun v31 hF => ?_)
        refine v_iconst (pc := 129) (v := 1) K dX12_otherwise_129 rfl ?_
        obtain ⟨M34, hc32, hF⟩ := q_bvE hF
        refine v_callV (pc := 130) (ci := 11) (As := [.int v31, .int (1 : Int32)]) (rest := []) (st' := []) (r := none) (M1 := M34) K (kX12_does l K.2.2.2.2.2.2.1 hy hc32) (jg_V jl_X12_367 jw_i_X12_does jw_s_X12_does jw_n_X12 jw_c_X12_does) rfl rfl rfl jd_X12_does ⟨Nat.le_of_ble_eq_true rfl, Nat.le_of_ble_eq_true rfl⟩ rfl rfl (Nat.le_of_ble_eq_true rfl) (by decide) (okc_1 hy) rfl dX12_otherwise_130 rfl ?_
        refine v_iinc (pc := 133) (v1 := x4 + (1 : Int32)) (lv' := [(4, .int (x4 + (1 : Int32))), (0, .ref (ly_o y 1000)), (1, .int x1)]) K dX12_otherwise_133 2 rfl rfl (by decide) rfl ?_
        refine v_goto (pc := 136) (tgt := 75) K dX12_otherwise_136 (by decide) ?_
        refine v_sub [1, 2, 0] rfl ?_
        exact ih hF
def fX12_otherwise (M : QM) (x1 : Int32) (x2 : Int32) (x3 : Int32) : Option (Int32 × QM) := (q_b (fX12_isQuarrel M x1) fun r2 M3 => if r2 = (0 : Int32) then some ((-1 : Int32), M3) else (if q_in (((64 : Int32) * x1) + (5 : Int32)) 1536 then (q_t ((q_a M3 1000 43 (((64 : Int32) * x1) + (5 : Int32)).toNatClampNeg) - (1 : Int32)) fun v5 => (q_b (fX12_in M3 (Int32.toInt64 x2) (1 : Int64) (Int32.toInt64 v5)) fun r7 M8 => if r7 = (0 : Int32) then some ((-1 : Int32), M8) else (q_b (fX12_in M8 (Int32.toInt64 x3) (0 : Int64) (10 : Int64)) fun r10 M11 => if r10 ≠ (0 : Int32) then (q_bv (fX12_load M11 x1 (x2 - (1 : Int32))) fun M14 => (q_b (fX12_can M14 x3) fun r16 M17 => if r16 ≠ (0 : Int32) then (q_bv (fX12_does M17 x3 (1 : Int32)) fun M20 => (fX12_otherwise_b75 q_F M20 x1 (x2 + (1 : Int32)))) else some ((-2 : Int32), M17))) else some ((-1 : Int32), M11)))) else none))
set_option maxRecDepth 100000 in
set_option maxHeartbeats 4000000 in
theorem bX12_otherwise_0 {x : Cx} {y : Ly} (l : Launch) (K : VK x l rmX12_otherwise y 5 cX12_otherwise RX12 wqX12_otherwise) (hy : y.2.2.2.2 = 1) {z : Int32 × QM} (hQ : VQ x y (some (.int z.1)) z.2 (some .int)) {M : QM} {x1 : Int32} {x2 : Int32} {x3 : Int32} (hF : fX12_otherwise M x1 x2 x3 = some z) : V x y 5 M 0 [(0, .ref (ly_o y 1000)), (1, .int x1), (2, .int x2), (3, .int x3)] [] := by
  unfold fX12_otherwise at hF
  refine v_aload_n (pc := 0) K dX12_otherwise_0 0 rfl ?_
  refine v_iload_n (pc := 1) K dX12_otherwise_1 1 rfl ?_
  obtain ⟨r2, M3, hc1, hF⟩ := q_bE hF
  refine v_callV (pc := 2) (ci := 11) (As := [.int x1]) (rest := []) (st' := [.int r2]) (r := some (.int r2)) (M1 := M3) K (kX12_isQuarrel l K.2.2.2.2.2.2.1 hy hc1) (jg_V jl_X12_408 jw_i_X12_isQuarrel jw_s_X12_isQuarrel jw_n_X12 jw_c_X12_isQuarrel) rfl rfl rfl jd_X12_isQuarrel ⟨Nat.le_of_ble_eq_true rfl, Nat.le_of_ble_eq_true rfl⟩ rfl rfl (Nat.le_of_ble_eq_true rfl) (by decide) (okc_1 hy) rfl dX12_otherwise_2 rfl ?_
  refine v_if_eq (pc := 5) (tgt := 43) K dX12_otherwise_5 (by decide) hF (fun c24 hF => ?_) (fun c24 hF => ?_)
  · refine v_iconst (pc := 43) (v := -1) K dX12_otherwise_43 rfl ?_
    have hz := (Option.some.inj hF).symm
    subst hz
    exact v_iret (pc := 44) K hQ dX12_otherwise_44
  · refine v_iload_n (pc := 8) K dX12_otherwise_8 2 rfl ?_
    refine v_i2l (pc := 9) K dX12_otherwise_9 ?_
    refine v_lconst (pc := 10) (v := 1) K dX12_otherwise_10 rfl ?_
    refine v_aload_n (pc := 11) K dX12_otherwise_11 0 rfl ?_
    refine gX12_told (pc := 12) K hy (by decide) jn_X12 (List.mem_cons_of_mem _ jl_X12_82) dX12_otherwise_12 ?_
    refine v_bipush (pc := 15) (v := 64) K dX12_otherwise_15 rfl ?_
    refine v_iload_n (pc := 17) K dX12_otherwise_17 1 rfl ?_
    refine v_imul (pc := 18) K dX12_otherwise_18 ?_
    refine v_iconst (pc := 19) (v := 5) K dX12_otherwise_19 rfl ?_
    refine v_iadd (pc := 20) K dX12_otherwise_20 ?_
    refine iX12_told (pc := 21) K hy (by decide) hF dX12_otherwise_21 (fun hi4 hF => ?_)
    refine v_iconst (pc := 22) (v := 1) K dX12_otherwise_22 rfl ?_
    refine v_isub (pc := 23) K dX12_otherwise_23 ?_
    refine v_nmI hF (fun v5 hF => ?_)
    refine v_i2l (pc := 24) K dX12_otherwise_24 ?_
    obtain ⟨r7, M8, hc6, hF⟩ := q_bE hF
    refine v_callS (pc := 25) (As := [.long (Int32.toInt64 x2), .long (1 : Int64), .long (Int32.toInt64 v5)]) (rest := []) (st' := [.int r7]) (r := some (.int r7)) (M1 := M8) K (kX12_in l K.2.2.2.2.2.2.1 hy hc6) (jg_S jl_X12_97 jw_t_X12_in jw_n_X12 jw_c_X12_in) rfl rfl rfl jd_X12_in ⟨Nat.le_of_ble_eq_true rfl, Nat.le_of_ble_eq_true rfl⟩ rfl rfl (Nat.le_of_ble_eq_true rfl) dX12_otherwise_25 rfl ?_
    refine v_if_eq (pc := 28) (tgt := 43) K dX12_otherwise_28 (by decide) hF (fun c23 hF => ?_) (fun c23 hF => ?_)
    · refine v_iconst (pc := 43) (v := -1) K dX12_otherwise_43 rfl ?_
      have hz := (Option.some.inj hF).symm
      subst hz
      exact v_iret (pc := 44) K hQ dX12_otherwise_44
    · refine v_iload_n (pc := 31) K dX12_otherwise_31 3 rfl ?_
      refine v_i2l (pc := 32) K dX12_otherwise_32 ?_
      refine v_lconst (pc := 33) (v := 0) K dX12_otherwise_33 rfl ?_
      refine v_ldc2 (pc := 34) (v := 10) K dX12_otherwise_34 (List.mem_cons_of_mem _ jl_X12_359) ?_
      obtain ⟨r10, M11, hc9, hF⟩ := q_bE hF
      refine v_callS (pc := 37) (As := [.long (Int32.toInt64 x3), .long (0 : Int64), .long (10 : Int64)]) (rest := []) (st' := [.int r10]) (r := some (.int r10)) (M1 := M11) K (kX12_in l K.2.2.2.2.2.2.1 hy hc9) (jg_S jl_X12_97 jw_t_X12_in jw_n_X12 jw_c_X12_in) rfl rfl rfl jd_X12_in ⟨Nat.le_of_ble_eq_true rfl, Nat.le_of_ble_eq_true rfl⟩ rfl rfl (Nat.le_of_ble_eq_true rfl) dX12_otherwise_37 rfl ?_
      refine v_if_ne (pc := 40) (tgt := 45) K dX12_otherwise_40 (by decide) hF (fun c22 hF => ?_) (fun c22 hF => ?_)
      · refine v_aload_n (pc := 45) K dX12_otherwise_45 0 rfl ?_
        refine v_iload_n (pc := 46) K dX12_otherwise_46 1 rfl ?_
        refine v_iload_n (pc := 47) K dX12_otherwise_47 2 rfl ?_
        refine v_iconst (pc := 48) (v := 1) K dX12_otherwise_48 rfl ?_
        refine v_isub (pc := 49) K dX12_otherwise_49 ?_
        obtain ⟨M14, hc12, hF⟩ := q_bvE hF
        refine v_callV (pc := 50) (ci := 11) (As := [.int x1, .int (x2 - (1 : Int32))]) (rest := []) (st' := []) (r := none) (M1 := M14) K (kX12_load l K.2.2.2.2.2.2.1 hy hc12) (jg_V jl_X12_399 jw_i_X12_load jw_s_X12_load jw_n_X12 jw_c_X12_load) rfl rfl rfl jd_X12_load ⟨Nat.le_of_ble_eq_true rfl, Nat.le_of_ble_eq_true rfl⟩ rfl rfl (Nat.le_of_ble_eq_true rfl) (by decide) (okc_1 hy) rfl dX12_otherwise_50 rfl ?_
        refine v_aload_n (pc := 53) K dX12_otherwise_53 0 rfl ?_
        refine v_iload_n (pc := 54) K dX12_otherwise_54 3 rfl ?_
        obtain ⟨r16, M17, hc15, hF⟩ := q_bE hF
        refine v_callV (pc := 55) (ci := 11) (As := [.int x3]) (rest := []) (st' := [.int r16]) (r := some (.int r16)) (M1 := M17) K (kX12_can l K.2.2.2.2.2.2.1 hy hc15) (jg_V jl_X12_364 jw_i_X12_can jw_s_X12_can jw_n_X12 jw_c_X12_can) rfl rfl rfl jd_X12_can ⟨Nat.le_of_ble_eq_true rfl, Nat.le_of_ble_eq_true rfl⟩ rfl rfl (Nat.le_of_ble_eq_true rfl) (by decide) (okc_1 hy) rfl dX12_otherwise_55 rfl ?_
        refine v_if_ne (pc := 58) (tgt := 64) K dX12_otherwise_58 (by decide) hF (fun c21 hF => ?_) (fun c21 hF => ?_)
        · refine v_aload_n (pc := 64) K dX12_otherwise_64 0 rfl ?_
          refine v_iload_n (pc := 65) K dX12_otherwise_65 3 rfl ?_
          refine v_iconst (pc := 66) (v := 1) K dX12_otherwise_66 rfl ?_
          obtain ⟨M20, hc18, hF⟩ := q_bvE hF
          refine v_callV (pc := 67) (ci := 11) (As := [.int x3, .int (1 : Int32)]) (rest := []) (st' := []) (r := none) (M1 := M20) K (kX12_does l K.2.2.2.2.2.2.1 hy hc18) (jg_V jl_X12_367 jw_i_X12_does jw_s_X12_does jw_n_X12 jw_c_X12_does) rfl rfl rfl jd_X12_does ⟨Nat.le_of_ble_eq_true rfl, Nat.le_of_ble_eq_true rfl⟩ rfl rfl (Nat.le_of_ble_eq_true rfl) (by decide) (okc_1 hy) rfl dX12_otherwise_67 rfl ?_
          refine v_iload_n (pc := 70) K dX12_otherwise_70 2 rfl ?_
          refine v_iconst (pc := 71) (v := 1) K dX12_otherwise_71 rfl ?_
          refine v_iadd (pc := 72) K dX12_otherwise_72 ?_
          refine v_istore (pc := 73) (lv' := [(4, .int (x2 + (1 : Int32))), (0, .ref (ly_o y 1000)), (1, .int x1), (2, .int x2), (3, .int x3)]) K 4 dX12_otherwise_73 (by decide) rfl ?_
          refine v_sub [1, 2, 0] rfl ?_
          exact bX12_otherwise_75 l K hy hQ q_F hF
        · refine v_bipush (pc := 61) (v := -2) K dX12_otherwise_61 rfl ?_
          have hz := (Option.some.inj hF).symm
          subst hz
          exact v_iret (pc := 63) K hQ dX12_otherwise_63
      · refine v_iconst (pc := 43) (v := -1) K dX12_otherwise_43 rfl ?_
        have hz := (Option.some.inj hF).symm
        subst hz
        exact v_iret (pc := 44) K hQ dX12_otherwise_44
set_option maxRecDepth 100000 in
set_option maxHeartbeats 4000000 in
theorem kX12_otherwise (l : Launch) {y : Ly} (hJ : ly_J y) (hy : y.2.2.2.2 = 1) {M M1 : QM} {r : Int32} {x1 : Int32} {x2 : Int32} {x3 : Int32} (hF : fX12_otherwise M x1 x2 x3 = some (r, M1)) : Met l yX12_otherwise wqX12_otherwise rmX12_otherwise (q_P y [.ref (ly_o y 1000), .int x1, .int x2, .int x3] M) (q_E y (some (.int r)) M1) 0 0 (ly_A y) :=
  q_met (by decide) rfl hJ rfl rfl rfl (fun x K hQ => bX12_otherwise_0 l K hy (z := (r, M1)) hQ  hF)
-- ===== X12_again (II)V
theorem jd_X12_again : yX12_again.cls = RX12 ∧ yX12_again.cls ≠ "java/lang/invoke/MethodHandle" ∧ yX12_again.cls ≠ "java/lang/invoke/VarHandle" ∧ (parseMethodDescriptor yX12_again.desc).map (fun d => d.parameters.length) = some 2 := by decide +kernel
abbrev wqX12_again : List Cond := .code yX12_again cX12_again 5 none :: wsL_law
abbrev rmX12_again : Room := { frames := 5, cells := 0, slots := 0, locals := 126 }
def fX12_again_b105 (k47 : QM → Int32 → Int32 → Int32 → Int32 → Option QM) (M : QM) (x1 : Int32) (x2 : Int32) (x3 : Int32) (x4 : Int32) (s0 : Int32) (s1 : Int32) : Option QM := (q_bv (fX12_does M s1 s0) fun M21 => (k47 M21 x1 x2 x3 (x4 + (1 : Int32))))
set_option maxRecDepth 100000 in
set_option maxHeartbeats 4000000 in
theorem bX12_again_105 {x : Cx} {y : Ly} (l : Launch) (K : VK x l rmX12_again y 5 cX12_again RX12 wqX12_again) (hy : y.2.2.2.2 = 1) {z : QM} (hQ : VQ x y none z none) {k47 : QM → Int32 → Int32 → Int32 → Int32 → Option QM} (hk47 : ∀ {M : QM} {x1 : Int32} {x2 : Int32} {x3 : Int32} {x4 : Int32}, k47 M x1 x2 x3 x4 = some z → V x y 5 M 47 [(0, .ref (ly_o y 1000)), (1, .int x1), (2, .int x2), (3, .int x3), (4, .int x4)] []) {M : QM} {x1 : Int32} {x2 : Int32} {x3 : Int32} {x4 : Int32} {s0 : Int32} {s1 : Int32} (hF : fX12_again_b105 k47 M x1 x2 x3 x4 s0 s1 = some z) : V x y 5 M 105 [(0, .ref (ly_o y 1000)), (1, .int x1), (2, .int x2), (3, .int x3), (4, .int x4)] [.int s0, .int s1, .ref (ly_o y 1000)] := by
  unfold fX12_again_b105 at hF
  obtain ⟨M21, hc19, hF⟩ := q_bvE hF
  refine v_callV (pc := 105) (ci := 11) (As := [.int s1, .int s0]) (rest := []) (st' := []) (r := none) (M1 := M21) K (kX12_does l K.2.2.2.2.2.2.1 hy hc19) (jg_V jl_X12_367 jw_i_X12_does jw_s_X12_does jw_n_X12 jw_c_X12_does) rfl rfl rfl jd_X12_does ⟨Nat.le_of_ble_eq_true rfl, Nat.le_of_ble_eq_true rfl⟩ rfl rfl (Nat.le_of_ble_eq_true rfl) (by decide) (okc_1 hy) rfl dX12_again_105 rfl ?_
  refine v_iinc (pc := 108) (v1 := x4 + (1 : Int32)) (lv' := [(4, .int (x4 + (1 : Int32))), (0, .ref (ly_o y 1000)), (1, .int x1), (2, .int x2), (3, .int x3)]) K dX12_again_108 4 rfl rfl (by decide) rfl ?_
  refine v_goto (pc := 111) (tgt := 47) K dX12_again_111 (by decide) ?_
  refine v_sub [1, 2, 3, 4, 0] rfl ?_
  exact hk47 hF
def fX12_again_b47 : Nat → QM → Int32 → Int32 → Int32 → Int32 → Option QM
  | 0, _, _, _, _, _ => none
  | q + 1, M, x1, x2, x3, x4 => if x3 ≤ x4 then some M else (if q_in ((((64 : Int32) * x1) + (8 : Int32)) + x4) 1536 then (q_b (fX12_can M (q_a M 1000 43 ((((64 : Int32) * x1) + (8 : Int32)) + x4).toNatClampNeg)) fun r12 M13 => if r12 = (0 : Int32) then some M13 else (if q_in ((((64 : Int32) * x1) + (8 : Int32)) + x4) 1536 then (q_t (q_a M13 1000 43 ((((64 : Int32) * x1) + (8 : Int32)) + x4).toNatClampNeg) fun v15 => if ((x2 >>> (x4 &&& (31 : Int32))) &&& (1 : Int32)) ≠ (0 : Int32) then (fX12_again_b105 (fun M x1 x2 x3 x4 => fX12_again_b47 q M x1 x2 x3 x4) M13 x1 x2 x3 x4 (0 : Int32) v15) else (fX12_again_b105 (fun M x1 x2 x3 x4 => fX12_again_b47 q M x1 x2 x3 x4) M13 x1 x2 x3 x4 (1 : Int32) v15)) else none)) else none)
set_option maxRecDepth 100000 in
set_option maxHeartbeats 4000000 in
theorem bX12_again_47 {x : Cx} {y : Ly} (l : Launch) (K : VK x l rmX12_again y 5 cX12_again RX12 wqX12_again) (hy : y.2.2.2.2 = 1) {z : QM} (hQ : VQ x y none z none) : ∀ (q : Nat) {M : QM} {x1 : Int32} {x2 : Int32} {x3 : Int32} {x4 : Int32},  fX12_again_b47 q M x1 x2 x3 x4 = some z → V x y 5 M 47 [(0, .ref (ly_o y 1000)), (1, .int x1), (2, .int x2), (3, .int x3), (4, .int x4)] [] := by
  intro q
  induction q with
  | zero =>
    intro M x1 x2 x3 x4  hF
    rw [fX12_again_b47] at hF
    cases hF
  | succ q ih =>
    intro M x1 x2 x3 x4  hF
    rw [fX12_again_b47] at hF
    refine v_iload (pc := 47) K dX12_again_47 4 rfl ?_
    refine v_iload_n (pc := 49) K dX12_again_49 3 rfl ?_
    refine v_icmp_ge (pc := 50) (tgt := 114) K dX12_again_50 (by decide) hF (fun c18 hF => ?_) (fun c18 hF => ?_)
    · have hz := (Option.some.inj hF).symm
      subst hz
      exact v_vret (pc := 114) K hQ dX12_again_114
    · refine v_aload_n (pc := 53) K dX12_again_53 0 rfl ?_
      refine v_aload_n (pc := 54) K dX12_again_54 0 rfl ?_
      refine gX12_told (pc := 55) K hy (by decide) jn_X12 (List.mem_cons_of_mem _ jl_X12_82) dX12_again_55 ?_
      refine v_bipush (pc := 58) (v := 64) K dX12_again_58 rfl ?_
      refine v_iload_n (pc := 60) K dX12_again_60 1 rfl ?_
      refine v_imul (pc := 61) K dX12_again_61 ?_
      refine v_bipush (pc := 62) (v := 8) K dX12_again_62 rfl ?_
      refine v_iadd (pc := 64) K dX12_again_64 ?_
      refine v_iload (pc := 65) K dX12_again_65 4 rfl ?_
      refine v_iadd (pc := 67) K dX12_again_67 ?_
      refine iX12_told (pc := 68) K hy (by decide) hF dX12_again_68 (fun hi10 hF => ?_)
      obtain ⟨r12, M13, hc11, hF⟩ := q_bE hF
      refine v_callV (pc := 69) (ci := 11) (As := [.int (q_a M 1000 43 ((((64 : Int32) * x1) + (8 : Int32)) + x4).toNatClampNeg)]) (rest := []) (st' := [.int r12]) (r := some (.int r12)) (M1 := M13) K (kX12_can l K.2.2.2.2.2.2.1 hy hc11) (jg_V jl_X12_364 jw_i_X12_can jw_s_X12_can jw_n_X12 jw_c_X12_can) rfl rfl rfl jd_X12_can ⟨Nat.le_of_ble_eq_true rfl, Nat.le_of_ble_eq_true rfl⟩ rfl rfl (Nat.le_of_ble_eq_true rfl) (by decide) (okc_1 hy) rfl dX12_again_69 rfl ?_
      refine v_if_eq (pc := 72) (tgt := 114) K dX12_again_72 (by decide) hF (fun c17 hF => ?_) (fun c17 hF => ?_)
      · have hz := (Option.some.inj hF).symm
        subst hz
        exact v_vret (pc := 114) K hQ dX12_again_114
      · refine v_aload_n (pc := 75) K dX12_again_75 0 rfl ?_
        refine v_aload_n (pc := 76) K dX12_again_76 0 rfl ?_
        refine gX12_told (pc := 77) K hy (by decide) jn_X12 (List.mem_cons_of_mem _ jl_X12_82) dX12_again_77 ?_
        refine v_bipush (pc := 80) (v := 64) K dX12_again_80 rfl ?_
        refine v_iload_n (pc := 82) K dX12_again_82 1 rfl ?_
        refine v_imul (pc := 83) K dX12_again_83 ?_
        refine v_bipush (pc := 84) (v := 8) K dX12_again_84 rfl ?_
        refine v_iadd (pc := 86) K dX12_again_86 ?_
        refine v_iload (pc := 87) K dX12_again_87 4 rfl ?_
        refine v_iadd (pc := 89) K dX12_again_89 ?_
        refine iX12_told (pc := 90) K hy (by decide) hF dX12_again_90 (fun hi14 hF => ?_)
        refine v_nmI hF (fun v15 hF => ?_)
        refine v_iload_n (pc := 91) K dX12_again_91 2 rfl ?_
        refine v_iload (pc := 92) K dX12_again_92 4 rfl ?_
        refine v_ishr (pc := 94) K dX12_again_94 ?_
        refine v_iconst (pc := 95) (v := 1) K dX12_again_95 rfl ?_
        refine v_iand (pc := 96) K dX12_again_96 ?_
        refine v_if_ne (pc := 97) (tgt := 104) K dX12_again_97 (by decide) hF (fun c16 hF => ?_) (fun c16 hF => ?_)
        · refine v_iconst (pc := 104) (v := 0) K dX12_again_104 rfl ?_
          exact bX12_again_105 l K hy hQ ih hF
        · refine v_iconst (pc := 100) (v := 1) K dX12_again_100 rfl ?_
          refine v_goto (pc := 101) (tgt := 105) K dX12_again_101 (by decide) ?_
          exact bX12_again_105 l K hy hQ ih hF
def fX12_again_b41 (M : QM) (x1 : Int32) (x2 : Int32) (x3 : Int32) (s0 : Int32) (s1 : Int32) : Option QM := (q_bv (fX12_slightsFirst M s1 s0) fun M9 => (fX12_again_b47 q_F M9 x1 x2 x3 (1 : Int32)))
set_option maxRecDepth 100000 in
set_option maxHeartbeats 4000000 in
theorem bX12_again_41 {x : Cx} {y : Ly} (l : Launch) (K : VK x l rmX12_again y 5 cX12_again RX12 wqX12_again) (hy : y.2.2.2.2 = 1) {z : QM} (hQ : VQ x y none z none) {M : QM} {x1 : Int32} {x2 : Int32} {x3 : Int32} {s0 : Int32} {s1 : Int32} (hF : fX12_again_b41 M x1 x2 x3 s0 s1 = some z) : V x y 5 M 41 [(0, .ref (ly_o y 1000)), (1, .int x1), (2, .int x2), (3, .int x3)] [.int s0, .int s1, .ref (ly_o y 1000)] := by
  unfold fX12_again_b41 at hF
  obtain ⟨M9, hc7, hF⟩ := q_bvE hF
  refine v_callV (pc := 41) (ci := 11) (As := [.int s1, .int s0]) (rest := []) (st' := []) (r := none) (M1 := M9) K (kX12_slightsFirst l K.2.2.2.2.2.2.1 hy hc7) (jg_V jl_X12_402 jw_i_X12_slightsFirst jw_s_X12_slightsFirst jw_n_X12 jw_c_X12_slightsFirst) rfl rfl rfl jd_X12_slightsFirst ⟨Nat.le_of_ble_eq_true rfl, Nat.le_of_ble_eq_true rfl⟩ rfl rfl (Nat.le_of_ble_eq_true rfl) (by decide) (okc_1 hy) rfl dX12_again_41 rfl ?_
  refine v_iconst (pc := 44) (v := 1) K dX12_again_44 rfl ?_
  refine v_istore (pc := 45) (lv' := [(4, .int (1 : Int32)), (0, .ref (ly_o y 1000)), (1, .int x1), (2, .int x2), (3, .int x3)]) K 4 dX12_again_45 (by decide) rfl ?_
  refine v_sub [1, 2, 3, 4, 0] rfl ?_
  exact bX12_again_47 l K hy hQ q_F hF
def fX12_again (M : QM) (x1 : Int32) (x2 : Int32) : Option QM := (q_bv (fX12_party M x1) fun M3 => (if q_in (((64 : Int32) * x1) + (5 : Int32)) 1536 then (if q_in (((64 : Int32) * x1) + (8 : Int32)) 1536 then if (x2 &&& (1 : Int32)) ≠ (0 : Int32) then (fX12_again_b41 M3 x1 x2 (q_a M3 1000 43 (((64 : Int32) * x1) + (5 : Int32)).toNatClampNeg) (0 : Int32) (q_a M3 1000 43 (((64 : Int32) * x1) + (8 : Int32)).toNatClampNeg)) else (fX12_again_b41 M3 x1 x2 (q_a M3 1000 43 (((64 : Int32) * x1) + (5 : Int32)).toNatClampNeg) (1 : Int32) (q_a M3 1000 43 (((64 : Int32) * x1) + (8 : Int32)).toNatClampNeg)) else none) else none))
set_option maxRecDepth 100000 in
set_option maxHeartbeats 4000000 in
theorem bX12_again_0 {x : Cx} {y : Ly} (l : Launch) (K : VK x l rmX12_again y 5 cX12_again RX12 wqX12_again) (hy : y.2.2.2.2 = 1) {z : QM} (hQ : VQ x y none z none) {M : QM} {x1 : Int32} {x2 : Int32} (hF : fX12_again M x1 x2 = some z) : V x y 5 M 0 [(0, .ref (ly_o y 1000)), (1, .int x1), (2, .int x2)] [] := by
  unfold fX12_again at hF
  refine v_aload_n (pc := 0) K dX12_again_0 0 rfl ?_
  refine v_iload_n (pc := 1) K dX12_again_1 1 rfl ?_
  obtain ⟨M3, hc1, hF⟩ := q_bvE hF
  refine v_callV (pc := 2) (ci := 11) (As := [.int x1]) (rest := []) (st' := []) (r := none) (M1 := M3) K (kX12_party l K.2.2.2.2.2.2.1 hy hc1) (jg_V jl_X12_396 jw_i_X12_party jw_s_X12_party jw_n_X12 jw_c_X12_party) rfl rfl rfl jd_X12_party ⟨Nat.le_of_ble_eq_true rfl, Nat.le_of_ble_eq_true rfl⟩ rfl rfl (Nat.le_of_ble_eq_true rfl) (by decide) (okc_1 hy) rfl dX12_again_2 rfl ?_
  refine v_aload_n (pc := 5) K dX12_again_5 0 rfl ?_
  refine gX12_told (pc := 6) K hy (by decide) jn_X12 (List.mem_cons_of_mem _ jl_X12_82) dX12_again_6 ?_
  refine v_bipush (pc := 9) (v := 64) K dX12_again_9 rfl ?_
  refine v_iload_n (pc := 11) K dX12_again_11 1 rfl ?_
  refine v_imul (pc := 12) K dX12_again_12 ?_
  refine v_iconst (pc := 13) (v := 5) K dX12_again_13 rfl ?_
  refine v_iadd (pc := 14) K dX12_again_14 ?_
  refine iX12_told (pc := 15) K hy (by decide) hF dX12_again_15 (fun hi4 hF => ?_)
  refine v_istore_n (pc := 16) (lv' := [(3, .int (q_a M3 1000 43 (((64 : Int32) * x1) + (5 : Int32)).toNatClampNeg)), (0, .ref (ly_o y 1000)), (1, .int x1), (2, .int x2)]) K dX12_again_16 3 rfl (by decide) rfl ?_
  refine v_aload_n (pc := 17) K dX12_again_17 1 rfl ?_
  refine v_aload_n (pc := 18) K dX12_again_18 1 rfl ?_
  refine gX12_told (pc := 19) K hy (by decide) jn_X12 (List.mem_cons_of_mem _ jl_X12_82) dX12_again_19 ?_
  refine v_bipush (pc := 22) (v := 64) K dX12_again_22 rfl ?_
  refine v_iload_n (pc := 24) K dX12_again_24 2 rfl ?_
  refine v_imul (pc := 25) K dX12_again_25 ?_
  refine v_bipush (pc := 26) (v := 8) K dX12_again_26 rfl ?_
  refine v_iadd (pc := 28) K dX12_again_28 ?_
  refine iX12_told (pc := 29) K hy (by decide) hF dX12_again_29 (fun hi5 hF => ?_)
  refine v_iload_n (pc := 30) K dX12_again_30 3 rfl ?_
  refine v_iconst (pc := 31) (v := 1) K dX12_again_31 rfl ?_
  refine v_iand (pc := 32) K dX12_again_32 ?_
  refine v_if_ne (pc := 33) (tgt := 40) K dX12_again_33 (by decide) hF (fun c6 hF => ?_) (fun c6 hF => ?_)
  · refine v_iconst (pc := 40) (v := 0) K dX12_again_40 rfl ?_
    refine v_sub [1, 2, 3, 0] rfl ?_
    exact bX12_again_41 l K hy hQ hF
  · refine v_iconst (pc := 36) (v := 1) K dX12_again_36 rfl ?_
    refine v_goto (pc := 37) (tgt := 41) K dX12_again_37 (by decide) ?_
    refine v_sub [1, 2, 3, 0] rfl ?_
    exact bX12_again_41 l K hy hQ hF
set_option maxRecDepth 100000 in
set_option maxHeartbeats 4000000 in
theorem kX12_again (l : Launch) {y : Ly} (hJ : ly_J y) (hy : y.2.2.2.2 = 1) {M M1 : QM} {x1 : Int32} {x2 : Int32} (hF : fX12_again M x1 x2 = some M1) : Met l yX12_again wqX12_again rmX12_again (q_P y [.ref (ly_o y 1000), .int x1, .int x2] M) (q_E y none M1) 0 0 (ly_A y) :=
  q_met (by decide) rfl hJ rfl rfl rfl (fun x K hQ => bX12_again_0 l K hy (z := M1) hQ  hF)
-- ===== X12_doubt (II)I
theorem jd_X12_doubt : yX12_doubt.cls = RX12 ∧ yX12_doubt.cls ≠ "java/lang/invoke/MethodHandle" ∧ yX12_doubt.cls ≠ "java/lang/invoke/VarHandle" ∧ (parseMethodDescriptor yX12_doubt.desc).map (fun d => d.parameters.length) = some 2 := by decide +kernel
abbrev wqX12_doubt : List Cond := .code yX12_doubt cX12_doubt 5 (some .int) :: wsL_law
abbrev rmX12_doubt : Room := { frames := 7, cells := 0, slots := 0, locals := 175 }
def fX12_doubt_b98 (k44 : QM → Int32 → Int32 → Int32 → Int32 → Option (Int32 × QM)) (M : QM) (x1 : Int32) (x2 : Int32) (x3 : Int32) (x4 : Int32) : Option (Int32 × QM) := (k44 M x1 x2 x3 (x4 + (1 : Int32)))
set_option maxRecDepth 100000 in
set_option maxHeartbeats 4000000 in
theorem bX12_doubt_98 {x : Cx} {y : Ly} (l : Launch) (K : VK x l rmX12_doubt y 5 cX12_doubt RX12 wqX12_doubt) (hy : y.2.2.2.2 = 1) {z : Int32 × QM} (hQ : VQ x y (some (.int z.1)) z.2 (some .int)) {k44 : QM → Int32 → Int32 → Int32 → Int32 → Option (Int32 × QM)} (hk44 : ∀ {M : QM} {x1 : Int32} {x2 : Int32} {x3 : Int32} {x4 : Int32}, k44 M x1 x2 x3 x4 = some z → V x y 5 M 44 [(0, .ref (ly_o y 1000)), (1, .int x1), (2, .int x2), (3, .int x3), (4, .int x4)] []) {M : QM} {x1 : Int32} {x2 : Int32} {x3 : Int32} {x4 : Int32} (hF : fX12_doubt_b98 k44 M x1 x2 x3 x4 = some z) : V x y 5 M 98 [(0, .ref (ly_o y 1000)), (1, .int x1), (2, .int x2), (3, .int x3), (4, .int x4)] [] := by
  unfold fX12_doubt_b98 at hF
  refine v_iinc (pc := 98) (v1 := x4 + (1 : Int32)) (lv' := [(4, .int (x4 + (1 : Int32))), (0, .ref (ly_o y 1000)), (1, .int x1), (2, .int x2), (3, .int x3)]) K dX12_doubt_98 4 rfl rfl (by decide) rfl ?_
  refine v_goto (pc := 101) (tgt := 44) K dX12_doubt_101 (by decide) ?_
  refine v_sub [1, 2, 3, 4, 0] rfl ?_
  exact hk44 hF
def fX12_doubt_b158 (k112 : QM → Int32 → Int32 → Int32 → Int32 → Option (Int32 × QM)) (M : QM) (x1 : Int32) (x2 : Int32) (x3 : Int32) (x4 : Int32) : Option (Int32 × QM) := (k112 M x1 x2 x3 (x4 + (1 : Int32)))
set_option maxRecDepth 100000 in
set_option maxHeartbeats 4000000 in
theorem bX12_doubt_158 {x : Cx} {y : Ly} (l : Launch) (K : VK x l rmX12_doubt y 5 cX12_doubt RX12 wqX12_doubt) (hy : y.2.2.2.2 = 1) {z : Int32 × QM} (hQ : VQ x y (some (.int z.1)) z.2 (some .int)) {k112 : QM → Int32 → Int32 → Int32 → Int32 → Option (Int32 × QM)} (hk112 : ∀ {M : QM} {x1 : Int32} {x2 : Int32} {x3 : Int32} {x4 : Int32}, k112 M x1 x2 x3 x4 = some z → V x y 5 M 112 [(0, .ref (ly_o y 1000)), (1, .int x1), (2, .int x2), (3, .int x3), (4, .int x4)] []) {M : QM} {x1 : Int32} {x2 : Int32} {x3 : Int32} {x4 : Int32} (hF : fX12_doubt_b158 k112 M x1 x2 x3 x4 = some z) : V x y 5 M 158 [(0, .ref (ly_o y 1000)), (1, .int x1), (2, .int x2), (3, .int x3), (4, .int x4)] [] := by
  unfold fX12_doubt_b158 at hF
  refine v_iinc (pc := 158) (v1 := x4 + (1 : Int32)) (lv' := [(4, .int (x4 + (1 : Int32))), (0, .ref (ly_o y 1000)), (1, .int x1), (2, .int x2), (3, .int x3)]) K dX12_doubt_158 4 rfl rfl (by decide) rfl ?_
  refine v_goto (pc := 161) (tgt := 112) K dX12_doubt_161 (by decide) ?_
  refine v_sub [1, 2, 3, 4, 0] rfl ?_
  exact hk112 hF
def fX12_doubt_b112 : Nat → QM → Int32 → Int32 → Int32 → Int32 → Option (Int32 × QM)
  | 0, _, _, _, _, _ => none
  | q + 1, M, x1, x2, x3, x4 => if x2 < x4 then some (x3, M) else if (x4 &&& (x2 ^^^ (-1 : Int32))) = (0 : Int32) then (q_bv (fX12_again M x1 x4) fun M33 => if (q_i M33 1000 34) ≠ (0 : Int32) then (fX12_doubt_b158 (fun M x1 x2 x3 x4 => fX12_doubt_b112 q M x1 x2 x3 x4) M33 x1 x2 x3 x4) else (q_b (fX12_place M33) fun r35 M36 => (if q_in r35 13824 then (q_t (x3 ||| ((1 : Int32) <<< ((q_a M36 1000 37 r35.toNatClampNeg) &&& (31 : Int32)))) fun v38 => (fX12_doubt_b158 (fun M x1 x2 x3 x4 => fX12_doubt_b112 q M x1 x2 x3 x4) M36 x1 x2 v38 x4)) else none))) else (fX12_doubt_b158 (fun M x1 x2 x3 x4 => fX12_doubt_b112 q M x1 x2 x3 x4) M x1 x2 x3 x4)
set_option maxRecDepth 100000 in
set_option maxHeartbeats 4000000 in
theorem bX12_doubt_112 {x : Cx} {y : Ly} (l : Launch) (K : VK x l rmX12_doubt y 5 cX12_doubt RX12 wqX12_doubt) (hy : y.2.2.2.2 = 1) {z : Int32 × QM} (hQ : VQ x y (some (.int z.1)) z.2 (some .int)) : ∀ (q : Nat) {M : QM} {x1 : Int32} {x2 : Int32} {x3 : Int32} {x4 : Int32},  fX12_doubt_b112 q M x1 x2 x3 x4 = some z → V x y 5 M 112 [(0, .ref (ly_o y 1000)), (1, .int x1), (2, .int x2), (3, .int x3), (4, .int x4)] [] := by
  intro q
  induction q with
  | zero =>
    intro M x1 x2 x3 x4  hF
    rw [fX12_doubt_b112] at hF
    cases hF
  | succ q ih =>
    intro M x1 x2 x3 x4  hF
    rw [fX12_doubt_b112] at hF
    refine v_iload (pc := 112) K dX12_doubt_112 4 rfl ?_
    refine v_iload_n (pc := 114) K dX12_doubt_114 2 rfl ?_
    refine v_icmp_gt (pc := 115) (tgt := 164) K dX12_doubt_115 (by decide) hF (fun c41 hF => ?_) (fun c41 hF => ?_)
    · refine v_iload_n (pc := 164) K dX12_doubt_164 3 rfl ?_
      have hz := (Option.some.inj hF).symm
      subst hz
      exact v_iret (pc := 165) K hQ dX12_doubt_165
    · refine v_iload (pc := 118) K dX12_doubt_118 4 rfl ?_
      refine v_iload_n (pc := 120) K dX12_doubt_120 2 rfl ?_
      refine v_iconst (pc := 121) (v := -1) K dX12_doubt_121 rfl ?_
      refine v_ixor (pc := 122) K dX12_doubt_122 ?_
      refine v_iand (pc := 123) K dX12_doubt_123 ?_
      refine v_if_eq (pc := 124) (tgt := 130) K dX12_doubt_124 (by decide) hF (fun c40 hF => ?_) (fun c40 hF => ?_)
      · refine v_aload_n (pc := 130) K dX12_doubt_130 0 rfl ?_
        refine v_iload_n (pc := 131) K dX12_doubt_131 1 rfl ?_
        refine v_iload (pc := 132) K dX12_doubt_132 4 rfl ?_
        obtain ⟨M33, hc31, hF⟩ := q_bvE hF
        refine v_callV (pc := 134) (ci := 11) (As := [.int x1, .int x4]) (rest := []) (st' := []) (r := none) (M1 := M33) K (kX12_again l K.2.2.2.2.2.2.1 hy hc31) (jg_V jl_X12_429 jw_i_X12_again jw_s_X12_again jw_n_X12 jw_c_X12_again) rfl rfl rfl jd_X12_again ⟨Nat.le_of_ble_eq_true rfl, Nat.le_of_ble_eq_true rfl⟩ rfl rfl (Nat.le_of_ble_eq_true rfl) (by decide) (okc_1 hy) rfl dX12_doubt_134 rfl ?_
        refine v_aload_n (pc := 137) K dX12_doubt_137 0 rfl ?_
        refine gX12_ended (pc := 138) K hy (by decide) jn_X12 (List.mem_cons_of_mem _ jl_X12_347) dX12_doubt_138 ?_
        refine v_if_ne (pc := 141) (tgt := 158) K dX12_doubt_141 (by decide) hF (fun c39 hF => ?_) (fun c39 hF => ?_)
        · exact bX12_doubt_158 l K hy hQ ih hF
        · refine v_iload_n (pc := 144) K dX12_doubt_144 3 rfl ?_
          refine v_iconst (pc := 145) (v := 1) K dX12_doubt_145 rfl ?_
          refine v_aload_n (pc := 146) K dX12_doubt_146 0 rfl ?_
          refine gX12_gameOf (pc := 147) K hy (by decide) jn_X12 (List.mem_cons_of_mem _ jl_X12_66) dX12_doubt_147 ?_
          refine v_aload_n (pc := 150) K dX12_doubt_150 0 rfl ?_
          obtain ⟨r35, M36, hc34, hF⟩ := q_bE hF
          refine v_callV (pc := 151) (ci := 11) (As := []) (rest := [.ref (ly_a y 1000 37), .int (1 : Int32), .int x3]) (st' := [.int r35, .ref (ly_a y 1000 37), .int (1 : Int32), .int x3]) (r := some (.int r35)) (M1 := M36) K (kX12_place l K.2.2.2.2.2.2.1 hy hc34) (jg_V jl_X12_371 jw_i_X12_place jw_s_X12_place jw_n_X12 jw_c_X12_place) rfl rfl rfl jd_X12_place ⟨Nat.le_of_ble_eq_true rfl, Nat.le_of_ble_eq_true rfl⟩ rfl rfl (Nat.le_of_ble_eq_true rfl) (by decide) (okc_1 hy) rfl dX12_doubt_151 rfl ?_
          refine iX12_gameOf (pc := 154) K hy (by decide) hF dX12_doubt_154 (fun hi37 hF => ?_)
          refine v_ishl (pc := 155) K dX12_doubt_155 ?_
          refine v_ior (pc := 156) K dX12_doubt_156 ?_
          refine v_nmI hF (fun v38 hF => ?_)
          refine v_istore_n (pc := 157) (lv' := [(3, .int v38), (0, .ref (ly_o y 1000)), (1, .int x1), (2, .int x2), (4, .int x4)]) K dX12_doubt_157 3 rfl (by decide) rfl ?_
          refine v_sub [1, 2, 3, 0, 4] rfl ?_
          exact bX12_doubt_158 l K hy hQ ih hF
      · refine v_goto (pc := 127) (tgt := 158) K dX12_doubt_127 (by decide) ?_
        exact bX12_doubt_158 l K hy hQ ih hF
def fX12_doubt_b104 (M : QM) (x1 : Int32) (x2 : Int32) (x3 : Int32) : Option (Int32 × QM) := (q_bv (fX12_works M (-1 : Int32)) fun M30 => (fX12_doubt_b112 q_F M30 x1 x2 x3 (0 : Int32)))
set_option maxRecDepth 100000 in
set_option maxHeartbeats 4000000 in
theorem bX12_doubt_104 {x : Cx} {y : Ly} (l : Launch) (K : VK x l rmX12_doubt y 5 cX12_doubt RX12 wqX12_doubt) (hy : y.2.2.2.2 = 1) {z : Int32 × QM} (hQ : VQ x y (some (.int z.1)) z.2 (some .int)) {M : QM} {x1 : Int32} {x2 : Int32} {x3 : Int32} (hF : fX12_doubt_b104 M x1 x2 x3 = some z) : V x y 5 M 104 [(0, .ref (ly_o y 1000)), (1, .int x1), (2, .int x2), (3, .int x3)] [] := by
  unfold fX12_doubt_b104 at hF
  refine v_aload_n (pc := 104) K dX12_doubt_104 0 rfl ?_
  refine v_iconst (pc := 105) (v := -1) K dX12_doubt_105 rfl ?_
  obtain ⟨M30, hc28, hF⟩ := q_bvE hF
  refine v_callV (pc := 106) (ci := 11) (As := [.int (-1 : Int32)]) (rest := []) (st' := []) (r := none) (M1 := M30) K (kX12_works l K.2.2.2.2.2.2.1 hy hc28) (jg_V jl_X12_386 jw_i_X12_works jw_s_X12_works jw_n_X12 jw_c_X12_works) rfl rfl rfl jd_X12_works ⟨Nat.le_of_ble_eq_true rfl, Nat.le_of_ble_eq_true rfl⟩ rfl rfl (Nat.le_of_ble_eq_true rfl) (by decide) (okc_1 hy) rfl dX12_doubt_106 rfl ?_
  refine v_iconst (pc := 109) (v := 0) K dX12_doubt_109 rfl ?_
  refine v_istore (pc := 110) (lv' := [(4, .int (0 : Int32)), (0, .ref (ly_o y 1000)), (1, .int x1), (2, .int x2), (3, .int x3)]) K 4 dX12_doubt_110 (by decide) rfl ?_
  refine v_sub [1, 2, 3, 4, 0] rfl ?_
  exact bX12_doubt_112 l K hy hQ q_F hF
def fX12_doubt_b44 : Nat → QM → Int32 → Int32 → Int32 → Int32 → Option (Int32 × QM)
  | 0, _, _, _, _, _ => none
  | q + 1, M, x1, x2, x3, x4 => if x2 < x4 then (fX12_doubt_b104 M x1 x2 x3) else if (x4 &&& (x2 ^^^ (-1 : Int32))) = (0 : Int32) then (q_bv (fX12_again M x1 x4) fun M16 => if (q_i M16 1000 34) ≤ (0 : Int32) then (q_b (fX12_place M16) fun r18 M19 => (if q_in r18 13824 then (q_t (p_a M19 1000 36 r18.toNatClampNeg (vp_nar .boolean (1 : Int32))) fun M21 => (fX12_doubt_b98 (fun M x1 x2 x3 x4 => fX12_doubt_b44 q M x1 x2 x3 x4) M21 x1 x2 x3 x4)) else none)) else (q_b (fX12_outcome M16) fun r23 M24 => (fX12_doubt_b98 (fun M x1 x2 x3 x4 => fX12_doubt_b44 q M x1 x2 x3 x4) M24 x1 x2 (x3 ||| ((1 : Int32) <<< (r23 &&& (31 : Int32)))) x4))) else (fX12_doubt_b98 (fun M x1 x2 x3 x4 => fX12_doubt_b44 q M x1 x2 x3 x4) M x1 x2 x3 x4)
set_option maxRecDepth 100000 in
set_option maxHeartbeats 4000000 in
theorem bX12_doubt_44 {x : Cx} {y : Ly} (l : Launch) (K : VK x l rmX12_doubt y 5 cX12_doubt RX12 wqX12_doubt) (hy : y.2.2.2.2 = 1) {z : Int32 × QM} (hQ : VQ x y (some (.int z.1)) z.2 (some .int)) : ∀ (q : Nat) {M : QM} {x1 : Int32} {x2 : Int32} {x3 : Int32} {x4 : Int32},  fX12_doubt_b44 q M x1 x2 x3 x4 = some z → V x y 5 M 44 [(0, .ref (ly_o y 1000)), (1, .int x1), (2, .int x2), (3, .int x3), (4, .int x4)] [] := by
  intro q
  induction q with
  | zero =>
    intro M x1 x2 x3 x4  hF
    rw [fX12_doubt_b44] at hF
    cases hF
  | succ q ih =>
    intro M x1 x2 x3 x4  hF
    rw [fX12_doubt_b44] at hF
    refine v_iload (pc := 44) K dX12_doubt_44 4 rfl ?_
    refine v_iload_n (pc := 46) K dX12_doubt_46 2 rfl ?_
    refine v_icmp_gt (pc := 47) (tgt := 104) K dX12_doubt_47 (by decide) hF (fun c27 hF => ?_) (fun c27 hF => ?_)
    · refine v_sub [0, 1, 2, 3] rfl ?_
      exact bX12_doubt_104 l K hy hQ hF
    · refine v_iload (pc := 50) K dX12_doubt_50 4 rfl ?_
      refine v_iload_n (pc := 52) K dX12_doubt_52 2 rfl ?_
      refine v_iconst (pc := 53) (v := -1) K dX12_doubt_53 rfl ?_
      refine v_ixor (pc := 54) K dX12_doubt_54 ?_
      refine v_iand (pc := 55) K dX12_doubt_55 ?_
      refine v_if_eq (pc := 56) (tgt := 62) K dX12_doubt_56 (by decide) hF (fun c26 hF => ?_) (fun c26 hF => ?_)
      · refine v_aload_n (pc := 62) K dX12_doubt_62 0 rfl ?_
        refine v_iload_n (pc := 63) K dX12_doubt_63 1 rfl ?_
        refine v_iload (pc := 64) K dX12_doubt_64 4 rfl ?_
        obtain ⟨M16, hc14, hF⟩ := q_bvE hF
        refine v_callV (pc := 66) (ci := 11) (As := [.int x1, .int x4]) (rest := []) (st' := []) (r := none) (M1 := M16) K (kX12_again l K.2.2.2.2.2.2.1 hy hc14) (jg_V jl_X12_429 jw_i_X12_again jw_s_X12_again jw_n_X12 jw_c_X12_again) rfl rfl rfl jd_X12_again ⟨Nat.le_of_ble_eq_true rfl, Nat.le_of_ble_eq_true rfl⟩ rfl rfl (Nat.le_of_ble_eq_true rfl) (by decide) (okc_1 hy) rfl dX12_doubt_66 rfl ?_
        refine v_aload_n (pc := 69) K dX12_doubt_69 0 rfl ?_
        refine gX12_ended (pc := 70) K hy (by decide) jn_X12 (List.mem_cons_of_mem _ jl_X12_347) dX12_doubt_70 ?_
        refine v_if_le (pc := 73) (tgt := 88) K dX12_doubt_73 (by decide) hF (fun c25 hF => ?_) (fun c25 hF => ?_)
        · refine v_aload_n (pc := 88) K dX12_doubt_88 0 rfl ?_
          refine gX12_comes (pc := 89) K hy (by decide) jn_X12 (List.mem_cons_of_mem _ jl_X12_62) dX12_doubt_89 ?_
          refine v_aload_n (pc := 92) K dX12_doubt_92 0 rfl ?_
          obtain ⟨r18, M19, hc17, hF⟩ := q_bE hF
          refine v_callV (pc := 93) (ci := 11) (As := []) (rest := [.ref (ly_a y 1000 36)]) (st' := [.int r18, .ref (ly_a y 1000 36)]) (r := some (.int r18)) (M1 := M19) K (kX12_place l K.2.2.2.2.2.2.1 hy hc17) (jg_V jl_X12_371 jw_i_X12_place jw_s_X12_place jw_n_X12 jw_c_X12_place) rfl rfl rfl jd_X12_place ⟨Nat.le_of_ble_eq_true rfl, Nat.le_of_ble_eq_true rfl⟩ rfl rfl (Nat.le_of_ble_eq_true rfl) (by decide) (okc_1 hy) rfl dX12_doubt_93 rfl ?_
          refine v_iconst (pc := 96) (v := 1) K dX12_doubt_96 rfl ?_
          refine uX12_comes (pc := 97) K hy (by decide) hF dX12_doubt_97 (fun hi20 hF => ?_)
          refine v_nmM hF (fun M21 hF => ?_)
          exact bX12_doubt_98 l K hy hQ ih hF
        · refine v_iload_n (pc := 76) K dX12_doubt_76 3 rfl ?_
          refine v_iconst (pc := 77) (v := 1) K dX12_doubt_77 rfl ?_
          refine v_aload_n (pc := 78) K dX12_doubt_78 0 rfl ?_
          obtain ⟨r23, M24, hc22, hF⟩ := q_bE hF
          refine v_callV (pc := 79) (ci := 11) (As := []) (rest := [.int (1 : Int32), .int x3]) (st' := [.int r23, .int (1 : Int32), .int x3]) (r := some (.int r23)) (M1 := M24) K (kX12_outcome l K.2.2.2.2.2.2.1 hy hc22) (jg_V jl_X12_377 jw_i_X12_outcome jw_s_X12_outcome jw_n_X12 jw_c_X12_outcome) rfl rfl rfl jd_X12_outcome ⟨Nat.le_of_ble_eq_true rfl, Nat.le_of_ble_eq_true rfl⟩ rfl rfl (Nat.le_of_ble_eq_true rfl) (by decide) (okc_1 hy) rfl dX12_doubt_79 rfl ?_
          refine v_ishl (pc := 82) K dX12_doubt_82 ?_
          refine v_ior (pc := 83) K dX12_doubt_83 ?_
          refine v_istore_n (pc := 84) (lv' := [(3, .int (x3 ||| ((1 : Int32) <<< (r23 &&& (31 : Int32))))), (0, .ref (ly_o y 1000)), (1, .int x1), (2, .int x2), (4, .int x4)]) K dX12_doubt_84 3 rfl (by decide) rfl ?_
          refine v_goto (pc := 85) (tgt := 98) K dX12_doubt_85 (by decide) ?_
          refine v_sub [1, 2, 3, 0, 4] rfl ?_
          exact bX12_doubt_98 l K hy hQ ih hF
      · refine v_goto (pc := 59) (tgt := 98) K dX12_doubt_59 (by decide) ?_
        exact bX12_doubt_98 l K hy hQ ih hF
def fX12_doubt (M : QM) (x1 : Int32) (x2 : Int32) : Option (Int32 × QM) := (q_b (fX12_isQuarrel M x1) fun r2 M3 => if r2 = (0 : Int32) then some ((-1 : Int32), M3) else (if q_in (((64 : Int32) * x1) + (5 : Int32)) 1536 then (q_t ((1 : Int32) <<< ((q_a M3 1000 43 (((64 : Int32) * x1) + (5 : Int32)).toNatClampNeg) &&& (31 : Int32))) fun v5 => (q_b (fX12_in M3 (Int32.toInt64 x2) (0 : Int64) (Int32.toInt64 (v5 - (1 : Int32)))) fun r7 M8 => if r7 ≠ (0 : Int32) then (q_bv (fX12_forgets M8) fun M11 => (fX12_doubt_b44 q_F M11 x1 x2 (0 : Int32) (0 : Int32))) else some ((-1 : Int32), M8))) else none))
set_option maxRecDepth 100000 in
set_option maxHeartbeats 4000000 in
theorem bX12_doubt_0 {x : Cx} {y : Ly} (l : Launch) (K : VK x l rmX12_doubt y 5 cX12_doubt RX12 wqX12_doubt) (hy : y.2.2.2.2 = 1) {z : Int32 × QM} (hQ : VQ x y (some (.int z.1)) z.2 (some .int)) {M : QM} {x1 : Int32} {x2 : Int32} (hF : fX12_doubt M x1 x2 = some z) : V x y 5 M 0 [(0, .ref (ly_o y 1000)), (1, .int x1), (2, .int x2)] [] := by
  unfold fX12_doubt at hF
  refine v_aload_n (pc := 0) K dX12_doubt_0 0 rfl ?_
  refine v_iload_n (pc := 1) K dX12_doubt_1 1 rfl ?_
  obtain ⟨r2, M3, hc1, hF⟩ := q_bE hF
  refine v_callV (pc := 2) (ci := 11) (As := [.int x1]) (rest := []) (st' := [.int r2]) (r := some (.int r2)) (M1 := M3) K (kX12_isQuarrel l K.2.2.2.2.2.2.1 hy hc1) (jg_V jl_X12_408 jw_i_X12_isQuarrel jw_s_X12_isQuarrel jw_n_X12 jw_c_X12_isQuarrel) rfl rfl rfl jd_X12_isQuarrel ⟨Nat.le_of_ble_eq_true rfl, Nat.le_of_ble_eq_true rfl⟩ rfl rfl (Nat.le_of_ble_eq_true rfl) (by decide) (okc_1 hy) rfl dX12_doubt_2 rfl ?_
  refine v_if_eq (pc := 5) (tgt := 33) K dX12_doubt_5 (by decide) hF (fun c13 hF => ?_) (fun c13 hF => ?_)
  · refine v_iconst (pc := 33) (v := -1) K dX12_doubt_33 rfl ?_
    have hz := (Option.some.inj hF).symm
    subst hz
    exact v_iret (pc := 34) K hQ dX12_doubt_34
  · refine v_iload_n (pc := 8) K dX12_doubt_8 2 rfl ?_
    refine v_i2l (pc := 9) K dX12_doubt_9 ?_
    refine v_lconst (pc := 10) (v := 0) K dX12_doubt_10 rfl ?_
    refine v_iconst (pc := 11) (v := 1) K dX12_doubt_11 rfl ?_
    refine v_aload_n (pc := 12) K dX12_doubt_12 0 rfl ?_
    refine gX12_told (pc := 13) K hy (by decide) jn_X12 (List.mem_cons_of_mem _ jl_X12_82) dX12_doubt_13 ?_
    refine v_bipush (pc := 16) (v := 64) K dX12_doubt_16 rfl ?_
    refine v_iload_n (pc := 18) K dX12_doubt_18 1 rfl ?_
    refine v_imul (pc := 19) K dX12_doubt_19 ?_
    refine v_iconst (pc := 20) (v := 5) K dX12_doubt_20 rfl ?_
    refine v_iadd (pc := 21) K dX12_doubt_21 ?_
    refine iX12_told (pc := 22) K hy (by decide) hF dX12_doubt_22 (fun hi4 hF => ?_)
    refine v_ishl (pc := 23) K dX12_doubt_23 ?_
    refine v_nmI hF (fun v5 hF => ?_)
    refine v_iconst (pc := 24) (v := 1) K dX12_doubt_24 rfl ?_
    refine v_isub (pc := 25) K dX12_doubt_25 ?_
    refine v_i2l (pc := 26) K dX12_doubt_26 ?_
    obtain ⟨r7, M8, hc6, hF⟩ := q_bE hF
    refine v_callS (pc := 27) (As := [.long (Int32.toInt64 x2), .long (0 : Int64), .long (Int32.toInt64 (v5 - (1 : Int32)))]) (rest := []) (st' := [.int r7]) (r := some (.int r7)) (M1 := M8) K (kX12_in l K.2.2.2.2.2.2.1 hy hc6) (jg_S jl_X12_97 jw_t_X12_in jw_n_X12 jw_c_X12_in) rfl rfl rfl jd_X12_in ⟨Nat.le_of_ble_eq_true rfl, Nat.le_of_ble_eq_true rfl⟩ rfl rfl (Nat.le_of_ble_eq_true rfl) dX12_doubt_27 rfl ?_
    refine v_if_ne (pc := 30) (tgt := 35) K dX12_doubt_30 (by decide) hF (fun c12 hF => ?_) (fun c12 hF => ?_)
    · refine v_iconst (pc := 35) (v := 0) K dX12_doubt_35 rfl ?_
      refine v_istore_n (pc := 36) (lv' := [(3, .int (0 : Int32)), (0, .ref (ly_o y 1000)), (1, .int x1), (2, .int x2)]) K dX12_doubt_36 3 rfl (by decide) rfl ?_
      refine v_aload_n (pc := 37) K dX12_doubt_37 1 rfl ?_
      obtain ⟨M11, hc9, hF⟩ := q_bvE hF
      refine v_callV (pc := 38) (ci := 11) (As := []) (rest := []) (st' := []) (r := none) (M1 := M11) K (kX12_forgets l K.2.2.2.2.2.2.1 hy hc9) (jg_V jl_X12_383 jw_i_X12_forgets jw_s_X12_forgets jw_n_X12 jw_c_X12_forgets) rfl rfl rfl jd_X12_forgets ⟨Nat.le_of_ble_eq_true rfl, Nat.le_of_ble_eq_true rfl⟩ rfl rfl (Nat.le_of_ble_eq_true rfl) (by decide) (okc_1 hy) rfl dX12_doubt_38 rfl ?_
      refine v_iconst (pc := 41) (v := 0) K dX12_doubt_41 rfl ?_
      refine v_istore (pc := 42) (lv' := [(4, .int (0 : Int32)), (3, .int (0 : Int32)), (0, .ref (ly_o y 1000)), (1, .int x1), (2, .int x2)]) K 4 dX12_doubt_42 (by decide) rfl ?_
      refine v_sub [2, 3, 4, 1, 0] rfl ?_
      exact bX12_doubt_44 l K hy hQ q_F hF
    · refine v_iconst (pc := 33) (v := -1) K dX12_doubt_33 rfl ?_
      have hz := (Option.some.inj hF).symm
      subst hz
      exact v_iret (pc := 34) K hQ dX12_doubt_34
set_option maxRecDepth 100000 in
set_option maxHeartbeats 4000000 in
theorem kX12_doubt (l : Launch) {y : Ly} (hJ : ly_J y) (hy : y.2.2.2.2 = 1) {M M1 : QM} {r : Int32} {x1 : Int32} {x2 : Int32} (hF : fX12_doubt M x1 x2 = some (r, M1)) : Met l yX12_doubt wqX12_doubt rmX12_doubt (q_P y [.ref (ly_o y 1000), .int x1, .int x2] M) (q_E y (some (.int r)) M1) 0 0 (ly_A y) :=
  q_met (by decide) rfl hJ rfl rfl rfl (fun x K hQ => bX12_doubt_0 l K hy (z := (r, M1)) hQ  hF)
-- ===== X12_hangs (I)I
theorem jd_X12_hangs : yX12_hangs.cls = RX12 ∧ yX12_hangs.cls ≠ "java/lang/invoke/MethodHandle" ∧ yX12_hangs.cls ≠ "java/lang/invoke/VarHandle" ∧ (parseMethodDescriptor yX12_hangs.desc).map (fun d => d.parameters.length) = some 1 := by decide +kernel
abbrev wqX12_hangs : List Cond := .code yX12_hangs cX12_hangs 5 (some .int) :: wsL_law
abbrev rmX12_hangs : Room := { frames := 8, cells := 0, slots := 0, locals := 196 }
def fX12_hangs_b68 (k26 : QM → Int32 → Int32 → Int32 → Int32 → Option (Int32 × QM)) (M : QM) (x1 : Int32) (x2 : Int32) (x4 : Int32) (s0 : Int32) (s1 : Int32) : Option (Int32 × QM) := (k26 M x1 x2 (s1 ||| s0) (x4 + (1 : Int32)))
set_option maxRecDepth 100000 in
set_option maxHeartbeats 4000000 in
theorem bX12_hangs_68 {x : Cx} {y : Ly} (l : Launch) (K : VK x l rmX12_hangs y 5 cX12_hangs RX12 wqX12_hangs) (hy : y.2.2.2.2 = 1) {z : Int32 × QM} (hQ : VQ x y (some (.int z.1)) z.2 (some .int)) {k26 : QM → Int32 → Int32 → Int32 → Int32 → Option (Int32 × QM)} (hk26 : ∀ {M : QM} {x1 : Int32} {x2 : Int32} {x3 : Int32} {x4 : Int32}, k26 M x1 x2 x3 x4 = some z → V x y 5 M 26 [(0, .ref (ly_o y 1000)), (1, .int x1), (2, .int x2), (3, .int x3), (4, .int x4)] []) {M : QM} {x1 : Int32} {x2 : Int32} {x4 : Int32} {s0 : Int32} {s1 : Int32} (hF : fX12_hangs_b68 k26 M x1 x2 x4 s0 s1 = some z) : V x y 5 M 68 [(0, .ref (ly_o y 1000)), (1, .int x1), (2, .int x2), (4, .int x4)] [.int s0, .int s1] := by
  unfold fX12_hangs_b68 at hF
  refine v_ior (pc := 68) K dX12_hangs_68 ?_
  refine v_istore_n (pc := 69) (lv' := [(3, .int (s1 ||| s0)), (0, .ref (ly_o y 1000)), (1, .int x1), (2, .int x2), (4, .int x4)]) K dX12_hangs_69 3 rfl (by decide) rfl ?_
  refine v_iinc (pc := 70) (v1 := x4 + (1 : Int32)) (lv' := [(4, .int (x4 + (1 : Int32))), (3, .int (s1 ||| s0)), (0, .ref (ly_o y 1000)), (1, .int x1), (2, .int x2)]) K dX12_hangs_70 4 rfl rfl (by decide) rfl ?_
  refine v_goto (pc := 73) (tgt := 26) K dX12_hangs_73 (by decide) ?_
  refine v_sub [2, 3, 4, 1, 0] rfl ?_
  exact hk26 hF
def fX12_hangs_b26 : Nat → QM → Int32 → Int32 → Int32 → Int32 → Option (Int32 × QM)
  | 0, _, _, _, _, _ => none
  | q + 1, M, x1, x2, x3, x4 => (if q_in (((64 : Int32) * x1) + (5 : Int32)) 1536 then if (q_a M 1000 43 (((64 : Int32) * x1) + (5 : Int32)).toNatClampNeg) ≤ x4 then some (x3, M) else (q_bv (fX12_again M x1 ((1 : Int32) <<< (x4 &&& (31 : Int32)))) fun M14 => (q_b (fX12_plays M14) fun r16 M17 => if r16 = x2 then (fX12_hangs_b68 (fun M x1 x2 x3 x4 => fX12_hangs_b26 q M x1 x2 x3 x4) M17 x1 x2 x4 (0 : Int32) x3) else (fX12_hangs_b68 (fun M x1 x2 x3 x4 => fX12_hangs_b26 q M x1 x2 x3 x4) M17 x1 x2 x4 ((1 : Int32) <<< (x4 &&& (31 : Int32))) x3))) else none)
set_option maxRecDepth 100000 in
set_option maxHeartbeats 4000000 in
theorem bX12_hangs_26 {x : Cx} {y : Ly} (l : Launch) (K : VK x l rmX12_hangs y 5 cX12_hangs RX12 wqX12_hangs) (hy : y.2.2.2.2 = 1) {z : Int32 × QM} (hQ : VQ x y (some (.int z.1)) z.2 (some .int)) : ∀ (q : Nat) {M : QM} {x1 : Int32} {x2 : Int32} {x3 : Int32} {x4 : Int32},  fX12_hangs_b26 q M x1 x2 x3 x4 = some z → V x y 5 M 26 [(0, .ref (ly_o y 1000)), (1, .int x1), (2, .int x2), (3, .int x3), (4, .int x4)] [] := by
  intro q
  induction q with
  | zero =>
    intro M x1 x2 x3 x4  hF
    rw [fX12_hangs_b26] at hF
    cases hF
  | succ q ih =>
    intro M x1 x2 x3 x4  hF
    rw [fX12_hangs_b26] at hF
    refine v_iload (pc := 26) K dX12_hangs_26 4 rfl ?_
    refine v_aload_n (pc := 28) K dX12_hangs_28 0 rfl ?_
    refine gX12_told (pc := 29) K hy (by decide) jn_X12 (List.mem_cons_of_mem _ jl_X12_82) dX12_hangs_29 ?_
    refine v_bipush (pc := 32) (v := 64) K dX12_hangs_32 rfl ?_
    refine v_iload_n (pc := 34) K dX12_hangs_34 1 rfl ?_
    refine v_imul (pc := 35) K dX12_hangs_35 ?_
    refine v_iconst (pc := 36) (v := 5) K dX12_hangs_36 rfl ?_
    refine v_iadd (pc := 37) K dX12_hangs_37 ?_
    refine iX12_told (pc := 38) K hy (by decide) hF dX12_hangs_38 (fun hi11 hF => ?_)
    refine v_icmp_ge (pc := 39) (tgt := 76) K dX12_hangs_39 (by decide) hF (fun c19 hF => ?_) (fun c19 hF => ?_)
    · refine v_iload_n (pc := 76) K dX12_hangs_76 3 rfl ?_
      have hz := (Option.some.inj hF).symm
      subst hz
      exact v_iret (pc := 77) K hQ dX12_hangs_77
    · refine v_aload_n (pc := 42) K dX12_hangs_42 0 rfl ?_
      refine v_iload_n (pc := 43) K dX12_hangs_43 1 rfl ?_
      refine v_iconst (pc := 44) (v := 1) K dX12_hangs_44 rfl ?_
      refine v_iload (pc := 45) K dX12_hangs_45 4 rfl ?_
      refine v_ishl (pc := 47) K dX12_hangs_47 ?_
      obtain ⟨M14, hc12, hF⟩ := q_bvE hF
      refine v_callV (pc := 48) (ci := 11) (As := [.int x1, .int ((1 : Int32) <<< (x4 &&& (31 : Int32)))]) (rest := []) (st' := []) (r := none) (M1 := M14) K (kX12_again l K.2.2.2.2.2.2.1 hy hc12) (jg_V jl_X12_429 jw_i_X12_again jw_s_X12_again jw_n_X12 jw_c_X12_again) rfl rfl rfl jd_X12_again ⟨Nat.le_of_ble_eq_true rfl, Nat.le_of_ble_eq_true rfl⟩ rfl rfl (Nat.le_of_ble_eq_true rfl) (by decide) (okc_1 hy) rfl dX12_hangs_48 rfl ?_
      refine v_iload_n (pc := 51) K dX12_hangs_51 3 rfl ?_
      refine v_aload_n (pc := 52) K dX12_hangs_52 0 rfl ?_
      obtain ⟨r16, M17, hc15, hF⟩ := q_bE hF
      refine v_callV (pc := 53) (ci := 11) (As := []) (rest := [.int x3]) (st' := [.int r16, .int x3]) (r := some (.int r16)) (M1 := M17) K (kX12_plays l K.2.2.2.2.2.2.1 hy hc15) (jg_V jl_X12_426 jw_i_X12_plays jw_s_X12_plays jw_n_X12 jw_c_X12_plays) rfl rfl rfl jd_X12_plays ⟨Nat.le_of_ble_eq_true rfl, Nat.le_of_ble_eq_true rfl⟩ rfl rfl (Nat.le_of_ble_eq_true rfl) (by decide) (okc_1 hy) rfl dX12_hangs_53 rfl ?_
      refine v_iload_n (pc := 56) K dX12_hangs_56 2 rfl ?_
      refine v_icmp_eq (pc := 57) (tgt := 67) K dX12_hangs_57 (by decide) hF (fun c18 hF => ?_) (fun c18 hF => ?_)
      · refine v_iconst (pc := 67) (v := 0) K dX12_hangs_67 rfl ?_
        refine v_sub [0, 1, 2, 4] rfl ?_
        exact bX12_hangs_68 l K hy hQ ih hF
      · refine v_iconst (pc := 60) (v := 1) K dX12_hangs_60 rfl ?_
        refine v_iload (pc := 61) K dX12_hangs_61 4 rfl ?_
        refine v_ishl (pc := 63) K dX12_hangs_63 ?_
        refine v_goto (pc := 64) (tgt := 68) K dX12_hangs_64 (by decide) ?_
        refine v_sub [0, 1, 2, 4] rfl ?_
        exact bX12_hangs_68 l K hy hQ ih hF
def fX12_hangs (M : QM) (x1 : Int32) : Option (Int32 × QM) := (q_b (fX12_isQuarrel M x1) fun r2 M3 => if r2 ≠ (0 : Int32) then (q_bv (fX12_again M3 x1 (0 : Int32)) fun M6 => (q_b (fX12_plays M6) fun r8 M9 => (fX12_hangs_b26 q_F M9 x1 r8 (0 : Int32) (0 : Int32)))) else some ((-1 : Int32), M3))
set_option maxRecDepth 100000 in
set_option maxHeartbeats 4000000 in
theorem bX12_hangs_0 {x : Cx} {y : Ly} (l : Launch) (K : VK x l rmX12_hangs y 5 cX12_hangs RX12 wqX12_hangs) (hy : y.2.2.2.2 = 1) {z : Int32 × QM} (hQ : VQ x y (some (.int z.1)) z.2 (some .int)) {M : QM} {x1 : Int32} (hF : fX12_hangs M x1 = some z) : V x y 5 M 0 [(0, .ref (ly_o y 1000)), (1, .int x1)] [] := by
  unfold fX12_hangs at hF
  refine v_aload_n (pc := 0) K dX12_hangs_0 0 rfl ?_
  refine v_iload_n (pc := 1) K dX12_hangs_1 1 rfl ?_
  obtain ⟨r2, M3, hc1, hF⟩ := q_bE hF
  refine v_callV (pc := 2) (ci := 11) (As := [.int x1]) (rest := []) (st' := [.int r2]) (r := some (.int r2)) (M1 := M3) K (kX12_isQuarrel l K.2.2.2.2.2.2.1 hy hc1) (jg_V jl_X12_408 jw_i_X12_isQuarrel jw_s_X12_isQuarrel jw_n_X12 jw_c_X12_isQuarrel) rfl rfl rfl jd_X12_isQuarrel ⟨Nat.le_of_ble_eq_true rfl, Nat.le_of_ble_eq_true rfl⟩ rfl rfl (Nat.le_of_ble_eq_true rfl) (by decide) (okc_1 hy) rfl dX12_hangs_2 rfl ?_
  refine v_if_ne (pc := 5) (tgt := 10) K dX12_hangs_5 (by decide) hF (fun c10 hF => ?_) (fun c10 hF => ?_)
  · refine v_aload_n (pc := 10) K dX12_hangs_10 0 rfl ?_
    refine v_iload_n (pc := 11) K dX12_hangs_11 1 rfl ?_
    refine v_iconst (pc := 12) (v := 0) K dX12_hangs_12 rfl ?_
    obtain ⟨M6, hc4, hF⟩ := q_bvE hF
    refine v_callV (pc := 13) (ci := 11) (As := [.int x1, .int (0 : Int32)]) (rest := []) (st' := []) (r := none) (M1 := M6) K (kX12_again l K.2.2.2.2.2.2.1 hy hc4) (jg_V jl_X12_429 jw_i_X12_again jw_s_X12_again jw_n_X12 jw_c_X12_again) rfl rfl rfl jd_X12_again ⟨Nat.le_of_ble_eq_true rfl, Nat.le_of_ble_eq_true rfl⟩ rfl rfl (Nat.le_of_ble_eq_true rfl) (by decide) (okc_1 hy) rfl dX12_hangs_13 rfl ?_
    refine v_aload_n (pc := 16) K dX12_hangs_16 0 rfl ?_
    obtain ⟨r8, M9, hc7, hF⟩ := q_bE hF
    refine v_callV (pc := 17) (ci := 11) (As := []) (rest := []) (st' := [.int r8]) (r := some (.int r8)) (M1 := M9) K (kX12_plays l K.2.2.2.2.2.2.1 hy hc7) (jg_V jl_X12_426 jw_i_X12_plays jw_s_X12_plays jw_n_X12 jw_c_X12_plays) rfl rfl rfl jd_X12_plays ⟨Nat.le_of_ble_eq_true rfl, Nat.le_of_ble_eq_true rfl⟩ rfl rfl (Nat.le_of_ble_eq_true rfl) (by decide) (okc_1 hy) rfl dX12_hangs_17 rfl ?_
    refine v_istore_n (pc := 20) (lv' := [(2, .int r8), (0, .ref (ly_o y 1000)), (1, .int x1)]) K dX12_hangs_20 2 rfl (by decide) rfl ?_
    refine v_iconst (pc := 21) (v := 0) K dX12_hangs_21 rfl ?_
    refine v_istore_n (pc := 22) (lv' := [(3, .int (0 : Int32)), (2, .int r8), (0, .ref (ly_o y 1000)), (1, .int x1)]) K dX12_hangs_22 3 rfl (by decide) rfl ?_
    refine v_iconst (pc := 23) (v := 0) K dX12_hangs_23 rfl ?_
    refine v_istore (pc := 24) (lv' := [(4, .int (0 : Int32)), (3, .int (0 : Int32)), (2, .int r8), (0, .ref (ly_o y 1000)), (1, .int x1)]) K 4 dX12_hangs_24 (by decide) rfl ?_
    refine v_sub [3, 4, 2, 1, 0] rfl ?_
    exact bX12_hangs_26 l K hy hQ q_F hF
  · refine v_iconst (pc := 8) (v := -1) K dX12_hangs_8 rfl ?_
    have hz := (Option.some.inj hF).symm
    subst hz
    exact v_iret (pc := 9) K hQ dX12_hangs_9
set_option maxRecDepth 100000 in
set_option maxHeartbeats 4000000 in
theorem kX12_hangs (l : Launch) {y : Ly} (hJ : ly_J y) (hy : y.2.2.2.2 = 1) {M M1 : QM} {r : Int32} {x1 : Int32} (hF : fX12_hangs M x1 = some (r, M1)) : Met l yX12_hangs wqX12_hangs rmX12_hangs (q_P y [.ref (ly_o y 1000), .int x1] M) (q_E y (some (.int r)) M1) 0 0 (ly_A y) :=
  q_met (by decide) rfl hJ rfl rfl rfl (fun x K hQ => bX12_hangs_0 l K hy (z := (r, M1)) hQ  hF)
-- ===== X12_thinks (III)I
theorem jd_X12_thinks : yX12_thinks.cls = RX12 ∧ yX12_thinks.cls ≠ "java/lang/invoke/MethodHandle" ∧ yX12_thinks.cls ≠ "java/lang/invoke/VarHandle" ∧ (parseMethodDescriptor yX12_thinks.desc).map (fun d => d.parameters.length) = some 3 := by decide +kernel
abbrev wqX12_thinks : List Cond := .code yX12_thinks cX12_thinks 9 (some .int) :: wsL_law
abbrev rmX12_thinks : Room := { frames := 4, cells := 0, slots := 0, locals := 101 }
def fX12_thinks_b218 (k73 : QM → Int32 → Int32 → Int32 → Int32 → Option (Int32 × QM)) (M : QM) (x1 : Int32) (x3 : Int32) (x4 : Int32) (x5 : Int32) (s0 : Int32) (s1 : Int32) : Option (Int32 × QM) := (q_t (p_i M 1000 33 (s1 - s0)) fun M45 => (k73 M45 x1 x3 x4 (x5 + (1 : Int32))))
set_option maxRecDepth 100000 in
set_option maxHeartbeats 4000000 in
theorem bX12_thinks_218 {x : Cx} {y : Ly} (l : Launch) (K : VK x l rmX12_thinks y 9 cX12_thinks RX12 wqX12_thinks) (hy : y.2.2.2.2 = 1) {z : Int32 × QM} (hQ : VQ x y (some (.int z.1)) z.2 (some .int)) {k73 : QM → Int32 → Int32 → Int32 → Int32 → Option (Int32 × QM)} (hk73 : ∀ {M : QM} {x1 : Int32} {x3 : Int32} {x4 : Int32} {x5 : Int32}, k73 M x1 x3 x4 x5 = some z → V x y 9 M 73 [(0, .ref (ly_o y 1000)), (1, .int x1), (3, .int x3), (4, .int x4), (5, .int x5)] []) {M : QM} {x1 : Int32} {x3 : Int32} {x4 : Int32} {x5 : Int32} {s0 : Int32} {s1 : Int32} (hF : fX12_thinks_b218 k73 M x1 x3 x4 x5 s0 s1 = some z) : V x y 9 M 218 [(0, .ref (ly_o y 1000)), (1, .int x1), (3, .int x3), (4, .int x4), (5, .int x5)] [.int s0, .int s1, .ref (ly_o y 1000)] := by
  unfold fX12_thinks_b218 at hF
  refine v_isub (pc := 218) K dX12_thinks_218 ?_
  refine pX12_left (pc := 219) K hy (by decide) jn_X12 (List.mem_cons_of_mem _ jl_X12_341) dX12_thinks_219 ?_
  refine v_nmM hF (fun M45 hF => ?_)
  refine v_iinc (pc := 222) (v1 := x5 + (1 : Int32)) (lv' := [(5, .int (x5 + (1 : Int32))), (0, .ref (ly_o y 1000)), (1, .int x1), (3, .int x3), (4, .int x4)]) K dX12_thinks_222 4 rfl rfl (by decide) rfl ?_
  refine v_goto (pc := 225) (tgt := 73) K dX12_thinks_225 (by decide) ?_
  refine v_sub [1, 2, 3, 4, 0] rfl ?_
  exact hk73 hF
def fX12_thinks_b196 (k73 : QM → Int32 → Int32 → Int32 → Int32 → Option (Int32 × QM)) (M : QM) (x1 : Int32) (x3 : Int32) (x4 : Int32) (x5 : Int32) (x7 : Int32) (s0 : Int32) (s1 : Int32) : Option (Int32 × QM) := (if q_in s1 2 then (q_t (p_a M 1000 30 s1.toNatClampNeg s0) fun M42 => (q_t (p_i M42 1000 31 x7) fun M43 => if x5 ≤ (0 : Int32) then (fX12_thinks_b218 k73 M43 x1 x3 x4 x5 (0 : Int32) (q_i M43 1000 33)) else (fX12_thinks_b218 k73 M43 x1 x3 x4 x5 (1 : Int32) (q_i M43 1000 33)))) else none)
set_option maxRecDepth 100000 in
set_option maxHeartbeats 4000000 in
theorem bX12_thinks_196 {x : Cx} {y : Ly} (l : Launch) (K : VK x l rmX12_thinks y 9 cX12_thinks RX12 wqX12_thinks) (hy : y.2.2.2.2 = 1) {z : Int32 × QM} (hQ : VQ x y (some (.int z.1)) z.2 (some .int)) {k73 : QM → Int32 → Int32 → Int32 → Int32 → Option (Int32 × QM)} (hk73 : ∀ {M : QM} {x1 : Int32} {x3 : Int32} {x4 : Int32} {x5 : Int32}, k73 M x1 x3 x4 x5 = some z → V x y 9 M 73 [(0, .ref (ly_o y 1000)), (1, .int x1), (3, .int x3), (4, .int x4), (5, .int x5)] []) {M : QM} {x1 : Int32} {x3 : Int32} {x4 : Int32} {x5 : Int32} {x7 : Int32} {s0 : Int32} {s1 : Int32} (hF : fX12_thinks_b196 k73 M x1 x3 x4 x5 x7 s0 s1 = some z) : V x y 9 M 196 [(0, .ref (ly_o y 1000)), (1, .int x1), (3, .int x3), (4, .int x4), (5, .int x5), (7, .int x7)] [.int s0, .int s1, .ref (ly_a y 1000 30)] := by
  unfold fX12_thinks_b196 at hF
  refine uX12_owed (pc := 196) K hy (by decide) hF dX12_thinks_196 (fun hi41 hF => ?_)
  refine v_nmM hF (fun M42 hF => ?_)
  refine v_aload_n (pc := 197) K dX12_thinks_197 0 rfl ?_
  refine v_iload (pc := 198) K dX12_thinks_198 5 rfl ?_
  refine pX12_turn (pc := 200) K hy (by decide) jn_X12 (List.mem_cons_of_mem _ jl_X12_338) dX12_thinks_200 ?_
  refine v_nmM hF (fun M43 hF => ?_)
  refine v_aload_n (pc := 203) K dX12_thinks_203 0 rfl ?_
  refine v_dup (pc := 204) K dX12_thinks_204 rfl ?_
  refine gX12_left (pc := 205) K hy (by decide) jn_X12 (List.mem_cons_of_mem _ jl_X12_341) dX12_thinks_205 ?_
  refine v_iload (pc := 208) K dX12_thinks_208 4 rfl ?_
  refine v_if_le (pc := 210) (tgt := 217) K dX12_thinks_210 (by decide) hF (fun c44 hF => ?_) (fun c44 hF => ?_)
  · refine v_iconst (pc := 217) (v := 0) K dX12_thinks_217 rfl ?_
    refine v_sub [0, 1, 2, 3, 4] rfl ?_
    exact bX12_thinks_218 l K hy hQ hk73 hF
  · refine v_iconst (pc := 213) (v := 1) K dX12_thinks_213 rfl ?_
    refine v_goto (pc := 214) (tgt := 218) K dX12_thinks_214 (by decide) ?_
    refine v_sub [0, 1, 2, 3, 4] rfl ?_
    exact bX12_thinks_218 l K hy hQ hk73 hF
def fX12_thinks_b164 (k73 : QM → Int32 → Int32 → Int32 → Int32 → Option (Int32 × QM)) (M : QM) (x1 : Int32) (x3 : Int32) (x4 : Int32) (x5 : Int32) (x7 : Int32) (s0 : Int32) (s1 : Int32) : Option (Int32 × QM) := if (0 : Int32) ≤ (s1 + s0) then if (s1 + s0) ≤ (15 : Int32) then (fX12_thinks_b196 k73 M x1 x3 x4 x5 x7 (s1 + s0) x7) else (fX12_thinks_b196 k73 M x1 x3 x4 x5 x7 (15 : Int32) x7) else (fX12_thinks_b196 k73 M x1 x3 x4 x5 x7 (0 : Int32) x7)
set_option maxRecDepth 100000 in
set_option maxHeartbeats 4000000 in
theorem bX12_thinks_164 {x : Cx} {y : Ly} (l : Launch) (K : VK x l rmX12_thinks y 9 cX12_thinks RX12 wqX12_thinks) (hy : y.2.2.2.2 = 1) {z : Int32 × QM} (hQ : VQ x y (some (.int z.1)) z.2 (some .int)) {k73 : QM → Int32 → Int32 → Int32 → Int32 → Option (Int32 × QM)} (hk73 : ∀ {M : QM} {x1 : Int32} {x3 : Int32} {x4 : Int32} {x5 : Int32}, k73 M x1 x3 x4 x5 = some z → V x y 9 M 73 [(0, .ref (ly_o y 1000)), (1, .int x1), (3, .int x3), (4, .int x4), (5, .int x5)] []) {M : QM} {x1 : Int32} {x3 : Int32} {x4 : Int32} {x5 : Int32} {x7 : Int32} {s0 : Int32} {s1 : Int32} (hF : fX12_thinks_b164 k73 M x1 x3 x4 x5 x7 s0 s1 = some z) : V x y 9 M 164 [(0, .ref (ly_o y 1000)), (1, .int x1), (3, .int x3), (4, .int x4), (5, .int x5), (7, .int x7)] [.int s0, .int s1] := by
  unfold fX12_thinks_b164 at hF
  refine v_iadd (pc := 164) K dX12_thinks_164 ?_
  refine v_istore (pc := 165) (lv' := [(8, .int (s1 + s0)), (0, .ref (ly_o y 1000)), (1, .int x1), (3, .int x3), (4, .int x4), (5, .int x5), (7, .int x7)]) K 8 dX12_thinks_165 (by decide) rfl ?_
  refine v_aload_n (pc := 167) K dX12_thinks_167 1 rfl ?_
  refine gX12_owed (pc := 168) K hy (by decide) jn_X12 (List.mem_cons_of_mem _ jl_X12_59) dX12_thinks_168 ?_
  refine v_iload (pc := 171) K dX12_thinks_171 6 rfl ?_
  refine v_iload (pc := 173) K dX12_thinks_173 0 rfl ?_
  refine v_if_ge (pc := 175) (tgt := 182) K dX12_thinks_175 (by decide) hF (fun c40 hF => ?_) (fun c40 hF => ?_)
  · refine v_iload (pc := 182) K dX12_thinks_182 0 rfl ?_
    refine v_bipush (pc := 184) (v := 15) K dX12_thinks_184 rfl ?_
    refine v_icmp_le (pc := 186) (tgt := 194) K dX12_thinks_186 (by decide) hF (fun c39 hF => ?_) (fun c39 hF => ?_)
    · refine v_iload (pc := 194) K dX12_thinks_194 0 rfl ?_
      refine v_sub [1, 2, 3, 4, 5, 6] rfl ?_
      exact bX12_thinks_196 l K hy hQ hk73 hF
    · refine v_bipush (pc := 189) (v := 15) K dX12_thinks_189 rfl ?_
      refine v_goto (pc := 191) (tgt := 196) K dX12_thinks_191 (by decide) ?_
      refine v_sub [1, 2, 3, 4, 5, 6] rfl ?_
      exact bX12_thinks_196 l K hy hQ hk73 hF
  · refine v_iconst (pc := 178) (v := 0) K dX12_thinks_178 rfl ?_
    refine v_goto (pc := 179) (tgt := 196) K dX12_thinks_179 (by decide) ?_
    refine v_sub [1, 2, 3, 4, 5, 6] rfl ?_
    exact bX12_thinks_196 l K hy hQ hk73 hF
def fX12_thinks_b228 (M : QM) (x3 : Int32) : Option (Int32 × QM) := (if q_in x3 2 then some (q_a M 1000 30 x3.toNatClampNeg, M) else none)
set_option maxRecDepth 100000 in
set_option maxHeartbeats 4000000 in
theorem bX12_thinks_228 {x : Cx} {y : Ly} (l : Launch) (K : VK x l rmX12_thinks y 9 cX12_thinks RX12 wqX12_thinks) (hy : y.2.2.2.2 = 1) {z : Int32 × QM} (hQ : VQ x y (some (.int z.1)) z.2 (some .int)) {M : QM} {x3 : Int32} (hF : fX12_thinks_b228 M x3 = some z) : V x y 9 M 228 [(0, .ref (ly_o y 1000)), (3, .int x3)] [] := by
  unfold fX12_thinks_b228 at hF
  refine v_aload_n (pc := 228) K dX12_thinks_228 0 rfl ?_
  refine gX12_owed (pc := 229) K hy (by decide) jn_X12 (List.mem_cons_of_mem _ jl_X12_59) dX12_thinks_229 ?_
  refine v_iload_n (pc := 232) K dX12_thinks_232 1 rfl ?_
  refine iX12_owed (pc := 233) K hy (by decide) hF dX12_thinks_233 (fun hi46 hF => ?_)
  have hz := (Option.some.inj hF).symm
  subst hz
  exact v_iret (pc := 234) K hQ dX12_thinks_234
def fX12_thinks_b73 : Nat → QM → Int32 → Int32 → Int32 → Int32 → Option (Int32 × QM)
  | 0, _, _, _, _, _ => none
  | q + 1, M, x1, x3, x4, x5 => (if q_in (((64 : Int32) * x1) + (5 : Int32)) 1536 then if (q_a M 1000 43 (((64 : Int32) * x1) + (5 : Int32)).toNatClampNeg) ≤ x5 then (fX12_thinks_b228 M x3) else (if q_in ((((64 : Int32) * x1) + (8 : Int32)) + x5) 1536 then (q_bv (fX12_spoken M) fun M27 => (if q_in ((1 : Int32) - (q_i M 1000 31)) 2 then if (4 : Int32) ≤ (q_a M 1000 43 ((((64 : Int32) * x1) + (8 : Int32)) + x5).toNatClampNeg) then if (8 : Int32) ≤ (q_a M 1000 43 ((((64 : Int32) * x1) + (8 : Int32)) + x5).toNatClampNeg) then (fX12_thinks_b164 (fun M x1 x3 x4 x5 => fX12_thinks_b73 q M x1 x3 x4 x5) M27 x1 x3 x4 x5 ((1 : Int32) - (q_i M 1000 31)) (0 : Int32) (q_a M27 1000 30 ((1 : Int32) - (q_i M 1000 31)).toNatClampNeg)) else (q_t ((q_a M 1000 43 ((((64 : Int32) * x1) + (8 : Int32)) + x5).toNatClampNeg) - (4 : Int32)) fun v29 => (q_b (fX12_takes M27 x4 v29) fun r31 M32 => (fX12_thinks_b164 (fun M x1 x3 x4 x5 => fX12_thinks_b73 q M x1 x3 x4 x5) M32 x1 x3 x4 x5 ((1 : Int32) - (q_i M 1000 31)) (-r31) (q_a M27 1000 30 ((1 : Int32) - (q_i M 1000 31)).toNatClampNeg)))) else (q_b (fX12_degree M27 x4 (q_a M 1000 43 ((((64 : Int32) * x1) + (8 : Int32)) + x5).toNatClampNeg)) fun r35 M36 => (fX12_thinks_b164 (fun M x1 x3 x4 x5 => fX12_thinks_b73 q M x1 x3 x4 x5) M36 x1 x3 x4 x5 ((1 : Int32) - (q_i M 1000 31)) r35 (q_a M27 1000 30 ((1 : Int32) - (q_i M 1000 31)).toNatClampNeg))) else none)) else none) else none)
set_option maxRecDepth 100000 in
set_option maxHeartbeats 4000000 in
theorem bX12_thinks_73 {x : Cx} {y : Ly} (l : Launch) (K : VK x l rmX12_thinks y 9 cX12_thinks RX12 wqX12_thinks) (hy : y.2.2.2.2 = 1) {z : Int32 × QM} (hQ : VQ x y (some (.int z.1)) z.2 (some .int)) : ∀ (q : Nat) {M : QM} {x1 : Int32} {x3 : Int32} {x4 : Int32} {x5 : Int32},  fX12_thinks_b73 q M x1 x3 x4 x5 = some z → V x y 9 M 73 [(0, .ref (ly_o y 1000)), (1, .int x1), (3, .int x3), (4, .int x4), (5, .int x5)] [] := by
  intro q
  induction q with
  | zero =>
    intro M x1 x3 x4 x5  hF
    rw [fX12_thinks_b73] at hF
    cases hF
  | succ q ih =>
    intro M x1 x3 x4 x5  hF
    rw [fX12_thinks_b73] at hF
    refine v_iload (pc := 73) K dX12_thinks_73 4 rfl ?_
    refine v_aload_n (pc := 75) K dX12_thinks_75 0 rfl ?_
    refine gX12_told (pc := 76) K hy (by decide) jn_X12 (List.mem_cons_of_mem _ jl_X12_82) dX12_thinks_76 ?_
    refine v_bipush (pc := 79) (v := 64) K dX12_thinks_79 rfl ?_
    refine v_iload_n (pc := 81) K dX12_thinks_81 1 rfl ?_
    refine v_imul (pc := 82) K dX12_thinks_82 ?_
    refine v_iconst (pc := 83) (v := 5) K dX12_thinks_83 rfl ?_
    refine v_iadd (pc := 84) K dX12_thinks_84 ?_
    refine iX12_told (pc := 85) K hy (by decide) hF dX12_thinks_85 (fun hi23 hF => ?_)
    refine v_icmp_ge (pc := 86) (tgt := 228) K dX12_thinks_86 (by decide) hF (fun c38 hF => ?_) (fun c38 hF => ?_)
    · refine v_sub [0, 2] rfl ?_
      exact bX12_thinks_228 l K hy hQ hF
    · refine v_aload_n (pc := 89) K dX12_thinks_89 0 rfl ?_
      refine gX12_told (pc := 90) K hy (by decide) jn_X12 (List.mem_cons_of_mem _ jl_X12_82) dX12_thinks_90 ?_
      refine v_bipush (pc := 93) (v := 64) K dX12_thinks_93 rfl ?_
      refine v_iload_n (pc := 95) K dX12_thinks_95 1 rfl ?_
      refine v_imul (pc := 96) K dX12_thinks_96 ?_
      refine v_bipush (pc := 97) (v := 8) K dX12_thinks_97 rfl ?_
      refine v_iadd (pc := 99) K dX12_thinks_99 ?_
      refine v_iload (pc := 100) K dX12_thinks_100 4 rfl ?_
      refine v_iadd (pc := 102) K dX12_thinks_102 ?_
      refine iX12_told (pc := 103) K hy (by decide) hF dX12_thinks_103 (fun hi24 hF => ?_)
      refine v_istore (pc := 104) (lv' := [(6, .int (q_a M 1000 43 ((((64 : Int32) * x1) + (8 : Int32)) + x5).toNatClampNeg)), (0, .ref (ly_o y 1000)), (1, .int x1), (3, .int x3), (4, .int x4), (5, .int x5)]) K 6 dX12_thinks_104 (by decide) rfl ?_
      refine v_iconst (pc := 106) (v := 1) K dX12_thinks_106 rfl ?_
      refine v_aload_n (pc := 107) K dX12_thinks_107 1 rfl ?_
      refine gX12_turn (pc := 108) K hy (by decide) jn_X12 (List.mem_cons_of_mem _ jl_X12_338) dX12_thinks_108 ?_
      refine v_isub (pc := 111) K dX12_thinks_111 ?_
      refine v_istore (pc := 112) (lv' := [(7, .int ((1 : Int32) - (q_i M 1000 31))), (6, .int (q_a M 1000 43 ((((64 : Int32) * x1) + (8 : Int32)) + x5).toNatClampNeg)), (0, .ref (ly_o y 1000)), (1, .int x1), (3, .int x3), (4, .int x4), (5, .int x5)]) K 7 dX12_thinks_112 (by decide) rfl ?_
      refine v_aload_n (pc := 114) K dX12_thinks_114 2 rfl ?_
      obtain ⟨M27, hc25, hF⟩ := q_bvE hF
      refine v_callV (pc := 115) (ci := 11) (As := []) (rest := []) (st' := []) (r := none) (M1 := M27) K (kX12_spoken l K.2.2.2.2.2.2.1 hy hc25) (jg_V jl_X12_353 jw_i_X12_spoken jw_s_X12_spoken jw_n_X12 jw_c_X12_spoken) rfl rfl rfl jd_X12_spoken ⟨Nat.le_of_ble_eq_true rfl, Nat.le_of_ble_eq_true rfl⟩ rfl rfl (Nat.le_of_ble_eq_true rfl) (by decide) (okc_1 hy) rfl dX12_thinks_115 rfl ?_
      refine v_aload_n (pc := 118) K dX12_thinks_118 2 rfl ?_
      refine gX12_owed (pc := 119) K hy (by decide) jn_X12 (List.mem_cons_of_mem _ jl_X12_59) dX12_thinks_119 ?_
      refine v_iload (pc := 122) K dX12_thinks_122 0 rfl ?_
      refine iX12_owed (pc := 124) K hy (by decide) hF dX12_thinks_124 (fun hi28 hF => ?_)
      refine v_iload (pc := 125) K dX12_thinks_125 1 rfl ?_
      refine v_iconst (pc := 127) (v := 4) K dX12_thinks_127 rfl ?_
      refine v_icmp_ge (pc := 128) (tgt := 142) K dX12_thinks_128 (by decide) hF (fun c37 hF => ?_) (fun c37 hF => ?_)
      · refine v_iload (pc := 142) K dX12_thinks_142 1 rfl ?_
        refine v_bipush (pc := 144) (v := 8) K dX12_thinks_144 rfl ?_
        refine v_icmp_ge (pc := 146) (tgt := 163) K dX12_thinks_146 (by decide) hF (fun c33 hF => ?_) (fun c33 hF => ?_)
        · refine v_iconst (pc := 163) (v := 0) K dX12_thinks_163 rfl ?_
          refine v_sub [2, 3, 4, 5, 6, 0] rfl ?_
          exact bX12_thinks_164 l K hy hQ ih hF
        · refine v_aload_n (pc := 149) K dX12_thinks_149 2 rfl ?_
          refine v_iload (pc := 150) K dX12_thinks_150 5 rfl ?_
          refine v_iload (pc := 152) K dX12_thinks_152 1 rfl ?_
          refine v_iconst (pc := 154) (v := 4) K dX12_thinks_154 rfl ?_
          refine v_isub (pc := 155) K dX12_thinks_155 ?_
          refine v_nmI hF (fun v29 hF => ?_)
          obtain ⟨r31, M32, hc30, hF⟩ := q_bE hF
          refine v_callV (pc := 156) (ci := 11) (As := [.int x4, .int v29]) (rest := [.int (q_a M27 1000 30 ((1 : Int32) - (q_i M 1000 31)).toNatClampNeg)]) (st' := [.int r31, .int (q_a M27 1000 30 ((1 : Int32) - (q_i M 1000 31)).toNatClampNeg)]) (r := some (.int r31)) (M1 := M32) K (kX12_takes l K.2.2.2.2.2.2.1 hy hc30) (jg_V jl_X12_326 jw_i_X12_takes jw_s_X12_takes jw_n_X12 jw_c_X12_takes) rfl rfl rfl jd_X12_takes ⟨Nat.le_of_ble_eq_true rfl, Nat.le_of_ble_eq_true rfl⟩ rfl rfl (Nat.le_of_ble_eq_true rfl) (by decide) (okc_1 hy) rfl dX12_thinks_156 rfl ?_
          refine v_ineg (pc := 159) K dX12_thinks_159 ?_
          refine v_goto (pc := 160) (tgt := 164) K dX12_thinks_160 (by decide) ?_
          refine v_sub [2, 3, 4, 5, 6, 0] rfl ?_
          exact bX12_thinks_164 l K hy hQ ih hF
      · refine v_aload_n (pc := 131) K dX12_thinks_131 2 rfl ?_
        refine v_iload (pc := 132) K dX12_thinks_132 5 rfl ?_
        refine v_iload (pc := 134) K dX12_thinks_134 1 rfl ?_
        obtain ⟨r35, M36, hc34, hF⟩ := q_bE hF
        refine v_callV (pc := 136) (ci := 11) (As := [.int x4, .int (q_a M 1000 43 ((((64 : Int32) * x1) + (8 : Int32)) + x5).toNatClampNeg)]) (rest := [.int (q_a M27 1000 30 ((1 : Int32) - (q_i M 1000 31)).toNatClampNeg)]) (st' := [.int r35, .int (q_a M27 1000 30 ((1 : Int32) - (q_i M 1000 31)).toNatClampNeg)]) (r := some (.int r35)) (M1 := M36) K (kX12_degree l K.2.2.2.2.2.2.1 hy hc34) (jg_V jl_X12_322 jw_i_X12_degree jw_s_X12_degree jw_n_X12 jw_c_X12_degree) rfl rfl rfl jd_X12_degree ⟨Nat.le_of_ble_eq_true rfl, Nat.le_of_ble_eq_true rfl⟩ rfl rfl (Nat.le_of_ble_eq_true rfl) (by decide) (okc_1 hy) rfl dX12_thinks_136 rfl ?_
        refine v_goto (pc := 139) (tgt := 164) K dX12_thinks_139 (by decide) ?_
        refine v_sub [2, 3, 4, 5, 6, 0] rfl ?_
        exact bX12_thinks_164 l K hy hQ ih hF
def fX12_thinks (M : QM) (x1 : Int32) (x2 : Int32) (x3 : Int32) : Option (Int32 × QM) := (q_b (fX12_isQuarrel M x1) fun r2 M3 => if r2 = (0 : Int32) then some ((-1 : Int32), M3) else (q_b (fX12_in M3 (Int32.toInt64 x2) (0 : Int64) (1 : Int64)) fun r5 M6 => if r5 = (0 : Int32) then some ((-1 : Int32), M6) else (q_b (fX12_in M6 (Int32.toInt64 x3) (0 : Int64) (1 : Int64)) fun r8 M9 => if r8 ≠ (0 : Int32) then (q_bv (fX12_party M9 x1) fun M12 => (if q_in x2 2 then (if q_in (0 : Int32) 2 then (q_t (p_a M12 1000 30 (0 : Int32).toNatClampNeg (0 : Int32)) fun M15 => (if q_in (1 : Int32) 2 then (q_t (p_a M15 1000 30 (1 : Int32).toNatClampNeg (0 : Int32)) fun M17 => (q_t (p_i M17 1000 31 (0 : Int32)) fun M18 => (q_t (p_i M18 1000 33 (q_i M18 1000 29)) fun M19 => (fX12_thinks_b73 q_F M19 x1 x3 (q_a M12 1000 27 x2.toNatClampNeg) (0 : Int32))))) else none)) else none) else none)) else some ((-1 : Int32), M9))))
set_option maxRecDepth 100000 in
set_option maxHeartbeats 4000000 in
theorem bX12_thinks_0 {x : Cx} {y : Ly} (l : Launch) (K : VK x l rmX12_thinks y 9 cX12_thinks RX12 wqX12_thinks) (hy : y.2.2.2.2 = 1) {z : Int32 × QM} (hQ : VQ x y (some (.int z.1)) z.2 (some .int)) {M : QM} {x1 : Int32} {x2 : Int32} {x3 : Int32} (hF : fX12_thinks M x1 x2 x3 = some z) : V x y 9 M 0 [(0, .ref (ly_o y 1000)), (1, .int x1), (2, .int x2), (3, .int x3)] [] := by
  unfold fX12_thinks at hF
  refine v_aload_n (pc := 0) K dX12_thinks_0 0 rfl ?_
  refine v_iload_n (pc := 1) K dX12_thinks_1 1 rfl ?_
  obtain ⟨r2, M3, hc1, hF⟩ := q_bE hF
  refine v_callV (pc := 2) (ci := 11) (As := [.int x1]) (rest := []) (st' := [.int r2]) (r := some (.int r2)) (M1 := M3) K (kX12_isQuarrel l K.2.2.2.2.2.2.1 hy hc1) (jg_V jl_X12_408 jw_i_X12_isQuarrel jw_s_X12_isQuarrel jw_n_X12 jw_c_X12_isQuarrel) rfl rfl rfl jd_X12_isQuarrel ⟨Nat.le_of_ble_eq_true rfl, Nat.le_of_ble_eq_true rfl⟩ rfl rfl (Nat.le_of_ble_eq_true rfl) (by decide) (okc_1 hy) rfl dX12_thinks_2 rfl ?_
  refine v_if_eq (pc := 5) (tgt := 28) K dX12_thinks_5 (by decide) hF (fun c22 hF => ?_) (fun c22 hF => ?_)
  · refine v_iconst (pc := 28) (v := -1) K dX12_thinks_28 rfl ?_
    have hz := (Option.some.inj hF).symm
    subst hz
    exact v_iret (pc := 29) K hQ dX12_thinks_29
  · refine v_iload_n (pc := 8) K dX12_thinks_8 2 rfl ?_
    refine v_i2l (pc := 9) K dX12_thinks_9 ?_
    refine v_lconst (pc := 10) (v := 0) K dX12_thinks_10 rfl ?_
    refine v_lconst (pc := 11) (v := 1) K dX12_thinks_11 rfl ?_
    obtain ⟨r5, M6, hc4, hF⟩ := q_bE hF
    refine v_callS (pc := 12) (As := [.long (Int32.toInt64 x2), .long (0 : Int64), .long (1 : Int64)]) (rest := []) (st' := [.int r5]) (r := some (.int r5)) (M1 := M6) K (kX12_in l K.2.2.2.2.2.2.1 hy hc4) (jg_S jl_X12_97 jw_t_X12_in jw_n_X12 jw_c_X12_in) rfl rfl rfl jd_X12_in ⟨Nat.le_of_ble_eq_true rfl, Nat.le_of_ble_eq_true rfl⟩ rfl rfl (Nat.le_of_ble_eq_true rfl) dX12_thinks_12 rfl ?_
    refine v_if_eq (pc := 15) (tgt := 28) K dX12_thinks_15 (by decide) hF (fun c21 hF => ?_) (fun c21 hF => ?_)
    · refine v_iconst (pc := 28) (v := -1) K dX12_thinks_28 rfl ?_
      have hz := (Option.some.inj hF).symm
      subst hz
      exact v_iret (pc := 29) K hQ dX12_thinks_29
    · refine v_iload_n (pc := 18) K dX12_thinks_18 3 rfl ?_
      refine v_i2l (pc := 19) K dX12_thinks_19 ?_
      refine v_lconst (pc := 20) (v := 0) K dX12_thinks_20 rfl ?_
      refine v_lconst (pc := 21) (v := 1) K dX12_thinks_21 rfl ?_
      obtain ⟨r8, M9, hc7, hF⟩ := q_bE hF
      refine v_callS (pc := 22) (As := [.long (Int32.toInt64 x3), .long (0 : Int64), .long (1 : Int64)]) (rest := []) (st' := [.int r8]) (r := some (.int r8)) (M1 := M9) K (kX12_in l K.2.2.2.2.2.2.1 hy hc7) (jg_S jl_X12_97 jw_t_X12_in jw_n_X12 jw_c_X12_in) rfl rfl rfl jd_X12_in ⟨Nat.le_of_ble_eq_true rfl, Nat.le_of_ble_eq_true rfl⟩ rfl rfl (Nat.le_of_ble_eq_true rfl) dX12_thinks_22 rfl ?_
      refine v_if_ne (pc := 25) (tgt := 30) K dX12_thinks_25 (by decide) hF (fun c20 hF => ?_) (fun c20 hF => ?_)
      · refine v_aload_n (pc := 30) K dX12_thinks_30 0 rfl ?_
        refine v_iload_n (pc := 31) K dX12_thinks_31 1 rfl ?_
        obtain ⟨M12, hc10, hF⟩ := q_bvE hF
        refine v_callV (pc := 32) (ci := 11) (As := [.int x1]) (rest := []) (st' := []) (r := none) (M1 := M12) K (kX12_party l K.2.2.2.2.2.2.1 hy hc10) (jg_V jl_X12_396 jw_i_X12_party jw_s_X12_party jw_n_X12 jw_c_X12_party) rfl rfl rfl jd_X12_party ⟨Nat.le_of_ble_eq_true rfl, Nat.le_of_ble_eq_true rfl⟩ rfl rfl (Nat.le_of_ble_eq_true rfl) (by decide) (okc_1 hy) rfl dX12_thinks_32 rfl ?_
        refine v_aload_n (pc := 35) K dX12_thinks_35 0 rfl ?_
        refine gX12_keep (pc := 36) K hy (by decide) jn_X12 (List.mem_cons_of_mem _ jl_X12_56) dX12_thinks_36 ?_
        refine v_iload_n (pc := 39) K dX12_thinks_39 2 rfl ?_
        refine iX12_keep (pc := 40) K hy (by decide) hF dX12_thinks_40 (fun hi13 hF => ?_)
        refine v_istore (pc := 41) (lv' := [(4, .int (q_a M12 1000 27 x2.toNatClampNeg)), (0, .ref (ly_o y 1000)), (1, .int x1), (2, .int x2), (3, .int x3)]) K 4 dX12_thinks_41 (by decide) rfl ?_
        refine v_aload_n (pc := 43) K dX12_thinks_43 1 rfl ?_
        refine gX12_owed (pc := 44) K hy (by decide) jn_X12 (List.mem_cons_of_mem _ jl_X12_59) dX12_thinks_44 ?_
        refine v_iconst (pc := 47) (v := 0) K dX12_thinks_47 rfl ?_
        refine v_iconst (pc := 48) (v := 0) K dX12_thinks_48 rfl ?_
        refine uX12_owed (pc := 49) K hy (by decide) hF dX12_thinks_49 (fun hi14 hF => ?_)
        refine v_nmM hF (fun M15 hF => ?_)
        refine v_aload_n (pc := 50) K dX12_thinks_50 1 rfl ?_
        refine gX12_owed (pc := 51) K hy (by decide) jn_X12 (List.mem_cons_of_mem _ jl_X12_59) dX12_thinks_51 ?_
        refine v_iconst (pc := 54) (v := 1) K dX12_thinks_54 rfl ?_
        refine v_iconst (pc := 55) (v := 0) K dX12_thinks_55 rfl ?_
        refine uX12_owed (pc := 56) K hy (by decide) hF dX12_thinks_56 (fun hi16 hF => ?_)
        refine v_nmM hF (fun M17 hF => ?_)
        refine v_aload_n (pc := 57) K dX12_thinks_57 1 rfl ?_
        refine v_iconst (pc := 58) (v := 0) K dX12_thinks_58 rfl ?_
        refine pX12_turn (pc := 59) K hy (by decide) jn_X12 (List.mem_cons_of_mem _ jl_X12_338) dX12_thinks_59 ?_
        refine v_nmM hF (fun M18 hF => ?_)
        refine v_aload_n (pc := 62) K dX12_thinks_62 1 rfl ?_
        refine v_aload_n (pc := 63) K dX12_thinks_63 1 rfl ?_
        refine gX12_hoursFirst (pc := 64) K hy (by decide) jn_X12 (List.mem_cons_of_mem _ jl_X12_335) dX12_thinks_64 ?_
        refine pX12_left (pc := 67) K hy (by decide) jn_X12 (List.mem_cons_of_mem _ jl_X12_341) dX12_thinks_67 ?_
        refine v_nmM hF (fun M19 hF => ?_)
        refine v_iconst (pc := 70) (v := 0) K dX12_thinks_70 rfl ?_
        refine v_istore (pc := 71) (lv' := [(5, .int (0 : Int32)), (4, .int (q_a M12 1000 27 x2.toNatClampNeg)), (0, .ref (ly_o y 1000)), (1, .int x1), (2, .int x2), (3, .int x3)]) K 5 dX12_thinks_71 (by decide) rfl ?_
        refine v_sub [2, 3, 5, 1, 0] rfl ?_
        exact bX12_thinks_73 l K hy hQ q_F hF
      · refine v_iconst (pc := 28) (v := -1) K dX12_thinks_28 rfl ?_
        have hz := (Option.some.inj hF).symm
        subst hz
        exact v_iret (pc := 29) K hQ dX12_thinks_29
set_option maxRecDepth 100000 in
set_option maxHeartbeats 4000000 in
theorem kX12_thinks (l : Launch) {y : Ly} (hJ : ly_J y) (hy : y.2.2.2.2 = 1) {M M1 : QM} {r : Int32} {x1 : Int32} {x2 : Int32} {x3 : Int32} (hF : fX12_thinks M x1 x2 x3 = some (r, M1)) : Met l yX12_thinks wqX12_thinks rmX12_thinks (q_P y [.ref (ly_o y 1000), .int x1, .int x2, .int x3] M) (q_E y (some (.int r)) M1) 0 0 (ly_A y) :=
  q_met (by decide) rfl hJ rfl rfl rfl (fun x K hQ => bX12_thinks_0 l K hy (z := (r, M1)) hQ  hF)
-- ===== X12_firstOf (I)I
theorem jd_X12_firstOf : yX12_firstOf.cls = RX12 ∧ yX12_firstOf.cls ≠ "java/lang/invoke/MethodHandle" ∧ yX12_firstOf.cls ≠ "java/lang/invoke/VarHandle" ∧ (parseMethodDescriptor yX12_firstOf.desc).map (fun d => d.parameters.length) = some 1 := by decide +kernel
abbrev wqX12_firstOf : List Cond := .code yX12_firstOf cX12_firstOf 7 (some .int) :: wsL_law
abbrev rmX12_firstOf : Room := { frames := 1, cells := 0, slots := 0, locals := 21 }
def fX12_firstOf_b161 (k7 : QM → Int32 → Int32 → Int32 → Int32 → Option (Int32 × QM)) (M : QM) (x1 : Int32) (x2 : Int32) (x3 : Int32) (x4 : Int32) : Option (Int32 × QM) := (k7 M x1 x2 x3 (x4 + (1 : Int32)))
set_option maxRecDepth 100000 in
set_option maxHeartbeats 4000000 in
theorem bX12_firstOf_161 {x : Cx} {y : Ly} (l : Launch) (K : VK x l rmX12_firstOf y 7 cX12_firstOf RX12 wqX12_firstOf) (hy : y.2.2.2.2 = 1) {z : Int32 × QM} (hQ : VQ x y (some (.int z.1)) z.2 (some .int)) {k7 : QM → Int32 → Int32 → Int32 → Int32 → Option (Int32 × QM)} (hk7 : ∀ {M : QM} {x1 : Int32} {x2 : Int32} {x3 : Int32} {x4 : Int32}, k7 M x1 x2 x3 x4 = some z → V x y 7 M 7 [(0, .ref (ly_o y 1000)), (1, .int x1), (2, .int x2), (3, .int x3), (4, .int x4)] []) {M : QM} {x1 : Int32} {x2 : Int32} {x3 : Int32} {x4 : Int32} (hF : fX12_firstOf_b161 k7 M x1 x2 x3 x4 = some z) : V x y 7 M 161 [(0, .ref (ly_o y 1000)), (1, .int x1), (2, .int x2), (3, .int x3), (4, .int x4)] [] := by
  unfold fX12_firstOf_b161 at hF
  refine v_iinc (pc := 161) (v1 := x4 + (1 : Int32)) (lv' := [(4, .int (x4 + (1 : Int32))), (0, .ref (ly_o y 1000)), (1, .int x1), (2, .int x2), (3, .int x3)]) K dX12_firstOf_161 4 rfl rfl (by decide) rfl ?_
  refine v_goto (pc := 164) (tgt := 7) K dX12_firstOf_164 (by decide) ?_
  refine v_sub [1, 2, 3, 4, 0] rfl ?_
  exact hk7 hF
def fX12_firstOf_b155 (k7 : QM → Int32 → Int32 → Int32 → Int32 → Option (Int32 × QM)) (M : QM) (x1 : Int32) (x4 : Int32) (x6 : Int32) : Option (Int32 × QM) := (fX12_firstOf_b161 k7 M x1 x4 x6 x4)
set_option maxRecDepth 100000 in
set_option maxHeartbeats 4000000 in
theorem bX12_firstOf_155 {x : Cx} {y : Ly} (l : Launch) (K : VK x l rmX12_firstOf y 7 cX12_firstOf RX12 wqX12_firstOf) (hy : y.2.2.2.2 = 1) {z : Int32 × QM} (hQ : VQ x y (some (.int z.1)) z.2 (some .int)) {k7 : QM → Int32 → Int32 → Int32 → Int32 → Option (Int32 × QM)} (hk7 : ∀ {M : QM} {x1 : Int32} {x2 : Int32} {x3 : Int32} {x4 : Int32}, k7 M x1 x2 x3 x4 = some z → V x y 7 M 7 [(0, .ref (ly_o y 1000)), (1, .int x1), (2, .int x2), (3, .int x3), (4, .int x4)] []) {M : QM} {x1 : Int32} {x4 : Int32} {x6 : Int32} (hF : fX12_firstOf_b155 k7 M x1 x4 x6 = some z) : V x y 7 M 155 [(0, .ref (ly_o y 1000)), (1, .int x1), (4, .int x4), (6, .int x6)] [] := by
  unfold fX12_firstOf_b155 at hF
  refine v_iload (pc := 155) K dX12_firstOf_155 2 rfl ?_
  refine v_istore_n (pc := 157) (lv' := [(2, .int x4), (0, .ref (ly_o y 1000)), (1, .int x1), (4, .int x4), (6, .int x6)]) K dX12_firstOf_157 2 rfl (by decide) rfl ?_
  refine v_iload (pc := 158) K dX12_firstOf_158 4 rfl ?_
  refine v_istore_n (pc := 160) (lv' := [(3, .int x6), (2, .int x4), (0, .ref (ly_o y 1000)), (1, .int x1), (4, .int x4), (6, .int x6)]) K dX12_firstOf_160 3 rfl (by decide) rfl ?_
  refine v_sub [2, 3, 1, 0, 4] rfl ?_
  exact bX12_firstOf_161 l K hy hQ hk7 hF
def fX12_firstOf_b77 (k7 : QM → Int32 → Int32 → Int32 → Int32 → Option (Int32 × QM)) (M : QM) (x1 : Int32) (x2 : Int32) (x3 : Int32) (x4 : Int32) (s0 : Int32) : Option (Int32 × QM) := (if q_in (((64 : Int32) * x4) + (5 : Int32)) 1536 then (q_t ((q_a M 1000 43 (((64 : Int32) * x4) + (5 : Int32)).toNatClampNeg) - (1 : Int32)) fun v13 => (if q_in (((((64 : Int32) * x4) + (17 : Int32)) + ((5 : Int32) * v13)) + s0) 1536 then (q_t (q_a M 1000 43 (((((64 : Int32) * x4) + (17 : Int32)) + ((5 : Int32) * v13)) + s0).toNatClampNeg) fun v15 => (if q_in ((((64 : Int32) * x4) + (1 : Int32)) - s0) 1536 then (q_t ((4 : Int32) * (q_a M 1000 43 ((((64 : Int32) * x4) + (1 : Int32)) - s0).toNatClampNeg)) fun v17 => (if q_in (v17 + (1 : Int32)) 48 then (q_t (((10 : Int32) * v15) + (q_a M 1000 1 (v17 + (1 : Int32)).toNatClampNeg)) fun v19 => if x2 < (0 : Int32) then (fX12_firstOf_b155 k7 M x1 x4 v19) else if x3 < v19 then (fX12_firstOf_b155 k7 M x1 x4 v19) else (fX12_firstOf_b161 k7 M x1 x2 x3 x4)) else none)) else none)) else none)) else none)
set_option maxRecDepth 100000 in
set_option maxHeartbeats 4000000 in
theorem bX12_firstOf_77 {x : Cx} {y : Ly} (l : Launch) (K : VK x l rmX12_firstOf y 7 cX12_firstOf RX12 wqX12_firstOf) (hy : y.2.2.2.2 = 1) {z : Int32 × QM} (hQ : VQ x y (some (.int z.1)) z.2 (some .int)) {k7 : QM → Int32 → Int32 → Int32 → Int32 → Option (Int32 × QM)} (hk7 : ∀ {M : QM} {x1 : Int32} {x2 : Int32} {x3 : Int32} {x4 : Int32}, k7 M x1 x2 x3 x4 = some z → V x y 7 M 7 [(0, .ref (ly_o y 1000)), (1, .int x1), (2, .int x2), (3, .int x3), (4, .int x4)] []) {M : QM} {x1 : Int32} {x2 : Int32} {x3 : Int32} {x4 : Int32} {s0 : Int32} (hF : fX12_firstOf_b77 k7 M x1 x2 x3 x4 s0 = some z) : V x y 7 M 77 [(0, .ref (ly_o y 1000)), (1, .int x1), (2, .int x2), (3, .int x3), (4, .int x4)] [.int s0] := by
  unfold fX12_firstOf_b77 at hF
  refine v_istore (pc := 77) (lv' := [(5, .int s0), (0, .ref (ly_o y 1000)), (1, .int x1), (2, .int x2), (3, .int x3), (4, .int x4)]) K 5 dX12_firstOf_77 (by decide) rfl ?_
  refine v_bipush (pc := 79) (v := 10) K dX12_firstOf_79 rfl ?_
  refine v_aload_n (pc := 81) K dX12_firstOf_81 1 rfl ?_
  refine gX12_told (pc := 82) K hy (by decide) jn_X12 (List.mem_cons_of_mem _ jl_X12_82) dX12_firstOf_82 ?_
  refine v_bipush (pc := 85) (v := 64) K dX12_firstOf_85 rfl ?_
  refine v_iload (pc := 87) K dX12_firstOf_87 5 rfl ?_
  refine v_imul (pc := 89) K dX12_firstOf_89 ?_
  refine v_bipush (pc := 90) (v := 17) K dX12_firstOf_90 rfl ?_
  refine v_iadd (pc := 92) K dX12_firstOf_92 ?_
  refine v_iconst (pc := 93) (v := 5) K dX12_firstOf_93 rfl ?_
  refine v_aload_n (pc := 94) K dX12_firstOf_94 1 rfl ?_
  refine gX12_told (pc := 95) K hy (by decide) jn_X12 (List.mem_cons_of_mem _ jl_X12_82) dX12_firstOf_95 ?_
  refine v_bipush (pc := 98) (v := 64) K dX12_firstOf_98 rfl ?_
  refine v_iload (pc := 100) K dX12_firstOf_100 5 rfl ?_
  refine v_imul (pc := 102) K dX12_firstOf_102 ?_
  refine v_iconst (pc := 103) (v := 5) K dX12_firstOf_103 rfl ?_
  refine v_iadd (pc := 104) K dX12_firstOf_104 ?_
  refine iX12_told (pc := 105) K hy (by decide) hF dX12_firstOf_105 (fun hi12 hF => ?_)
  refine v_iconst (pc := 106) (v := 1) K dX12_firstOf_106 rfl ?_
  refine v_isub (pc := 107) K dX12_firstOf_107 ?_
  refine v_nmI hF (fun v13 hF => ?_)
  refine v_imul (pc := 108) K dX12_firstOf_108 ?_
  refine v_iadd (pc := 109) K dX12_firstOf_109 ?_
  refine v_iload (pc := 110) K dX12_firstOf_110 0 rfl ?_
  refine v_iadd (pc := 112) K dX12_firstOf_112 ?_
  refine iX12_told (pc := 113) K hy (by decide) hF dX12_firstOf_113 (fun hi14 hF => ?_)
  refine v_nmI hF (fun v15 hF => ?_)
  refine v_imul (pc := 114) K dX12_firstOf_114 ?_
  refine v_aload_n (pc := 115) K dX12_firstOf_115 1 rfl ?_
  refine gX12_person (pc := 116) K hy (by decide) jn_X12 (List.mem_cons_of_mem _ jl_X12_7) dX12_firstOf_116 ?_
  refine v_iconst (pc := 119) (v := 4) K dX12_firstOf_119 rfl ?_
  refine v_aload_n (pc := 120) K dX12_firstOf_120 1 rfl ?_
  refine gX12_told (pc := 121) K hy (by decide) jn_X12 (List.mem_cons_of_mem _ jl_X12_82) dX12_firstOf_121 ?_
  refine v_bipush (pc := 124) (v := 64) K dX12_firstOf_124 rfl ?_
  refine v_iload (pc := 126) K dX12_firstOf_126 5 rfl ?_
  refine v_imul (pc := 128) K dX12_firstOf_128 ?_
  refine v_iconst (pc := 129) (v := 1) K dX12_firstOf_129 rfl ?_
  refine v_iadd (pc := 130) K dX12_firstOf_130 ?_
  refine v_iload (pc := 131) K dX12_firstOf_131 0 rfl ?_
  refine v_isub (pc := 133) K dX12_firstOf_133 ?_
  refine iX12_told (pc := 134) K hy (by decide) hF dX12_firstOf_134 (fun hi16 hF => ?_)
  refine v_imul (pc := 135) K dX12_firstOf_135 ?_
  refine v_nmI hF (fun v17 hF => ?_)
  refine v_iconst (pc := 136) (v := 1) K dX12_firstOf_136 rfl ?_
  refine v_iadd (pc := 137) K dX12_firstOf_137 ?_
  refine iX12_person (pc := 138) K hy (by decide) hF dX12_firstOf_138 (fun hi18 hF => ?_)
  refine v_iadd (pc := 139) K dX12_firstOf_139 ?_
  refine v_nmI hF (fun v19 hF => ?_)
  refine v_istore (pc := 140) (lv' := [(6, .int v19), (5, .int s0), (0, .ref (ly_o y 1000)), (1, .int x1), (2, .int x2), (3, .int x3), (4, .int x4)]) K 6 dX12_firstOf_140 (by decide) rfl ?_
  refine v_iload_n (pc := 142) K dX12_firstOf_142 4 rfl ?_
  refine v_if_lt (pc := 143) (tgt := 155) K dX12_firstOf_143 (by decide) hF (fun c21 hF => ?_) (fun c21 hF => ?_)
  · refine v_sub [2, 3, 6, 0] rfl ?_
    exact bX12_firstOf_155 l K hy hQ hk7 hF
  · refine v_iload (pc := 146) K dX12_firstOf_146 0 rfl ?_
    refine v_iload_n (pc := 148) K dX12_firstOf_148 5 rfl ?_
    refine v_icmp_gt (pc := 149) (tgt := 155) K dX12_firstOf_149 (by decide) hF (fun c20 hF => ?_) (fun c20 hF => ?_)
    · refine v_sub [2, 3, 6, 0] rfl ?_
      exact bX12_firstOf_155 l K hy hQ hk7 hF
    · refine v_goto (pc := 152) (tgt := 161) K dX12_firstOf_152 (by decide) ?_
      refine v_sub [2, 3, 4, 5, 6] rfl ?_
      exact bX12_firstOf_161 l K hy hQ hk7 hF
def fX12_firstOf_b58 (k7 : QM → Int32 → Int32 → Int32 → Int32 → Option (Int32 × QM)) (M : QM) (x1 : Int32) (x2 : Int32) (x3 : Int32) (x4 : Int32) : Option (Int32 × QM) := (if q_in ((64 : Int32) * x4) 1536 then if (q_a M 1000 43 ((64 : Int32) * x4).toNatClampNeg) ≠ x1 then (fX12_firstOf_b77 k7 M x1 x2 x3 x4 (1 : Int32)) else (fX12_firstOf_b77 k7 M x1 x2 x3 x4 (0 : Int32)) else none)
set_option maxRecDepth 100000 in
set_option maxHeartbeats 4000000 in
theorem bX12_firstOf_58 {x : Cx} {y : Ly} (l : Launch) (K : VK x l rmX12_firstOf y 7 cX12_firstOf RX12 wqX12_firstOf) (hy : y.2.2.2.2 = 1) {z : Int32 × QM} (hQ : VQ x y (some (.int z.1)) z.2 (some .int)) {k7 : QM → Int32 → Int32 → Int32 → Int32 → Option (Int32 × QM)} (hk7 : ∀ {M : QM} {x1 : Int32} {x2 : Int32} {x3 : Int32} {x4 : Int32}, k7 M x1 x2 x3 x4 = some z → V x y 7 M 7 [(0, .ref (ly_o y 1000)), (1, .int x1), (2, .int x2), (3, .int x3), (4, .int x4)] []) {M : QM} {x1 : Int32} {x2 : Int32} {x3 : Int32} {x4 : Int32} (hF : fX12_firstOf_b58 k7 M x1 x2 x3 x4 = some z) : V x y 7 M 58 [(0, .ref (ly_o y 1000)), (1, .int x1), (2, .int x2), (3, .int x3), (4, .int x4)] [] := by
  unfold fX12_firstOf_b58 at hF
  refine v_aload_n (pc := 58) K dX12_firstOf_58 0 rfl ?_
  refine gX12_told (pc := 59) K hy (by decide) jn_X12 (List.mem_cons_of_mem _ jl_X12_82) dX12_firstOf_59 ?_
  refine v_bipush (pc := 62) (v := 64) K dX12_firstOf_62 rfl ?_
  refine v_iload (pc := 64) K dX12_firstOf_64 4 rfl ?_
  refine v_imul (pc := 66) K dX12_firstOf_66 ?_
  refine iX12_told (pc := 67) K hy (by decide) hF dX12_firstOf_67 (fun hi10 hF => ?_)
  refine v_iload_n (pc := 68) K dX12_firstOf_68 1 rfl ?_
  refine v_icmp_ne (pc := 69) (tgt := 76) K dX12_firstOf_69 (by decide) hF (fun c11 hF => ?_) (fun c11 hF => ?_)
  · refine v_iconst (pc := 76) (v := 1) K dX12_firstOf_76 rfl ?_
    exact bX12_firstOf_77 l K hy hQ hk7 hF
  · refine v_iconst (pc := 72) (v := 0) K dX12_firstOf_72 rfl ?_
    refine v_goto (pc := 73) (tgt := 77) K dX12_firstOf_73 (by decide) ?_
    exact bX12_firstOf_77 l K hy hQ hk7 hF
def fX12_firstOf_b7 : Nat → QM → Int32 → Int32 → Int32 → Int32 → Option (Int32 × QM)
  | 0, _, _, _, _, _ => none
  | q + 1, M, x1, x2, x3, x4 => if (q_i M 1000 42) ≤ x4 then some (x2, M) else (q_b (fX12_isOn M x4) fun r2 M3 => if r2 = (0 : Int32) then (fX12_firstOf_b161 (fun M x1 x2 x3 x4 => fX12_firstOf_b7 q M x1 x2 x3 x4) M3 x1 x2 x3 x4) else (if q_in ((64 : Int32) * x4) 1536 then if (q_a M3 1000 43 ((64 : Int32) * x4).toNatClampNeg) = x1 then (fX12_firstOf_b58 (fun M x1 x2 x3 x4 => fX12_firstOf_b7 q M x1 x2 x3 x4) M3 x1 x2 x3 x4) else (if q_in (((64 : Int32) * x4) + (1 : Int32)) 1536 then if (q_a M3 1000 43 (((64 : Int32) * x4) + (1 : Int32)).toNatClampNeg) = x1 then (fX12_firstOf_b58 (fun M x1 x2 x3 x4 => fX12_firstOf_b7 q M x1 x2 x3 x4) M3 x1 x2 x3 x4) else (fX12_firstOf_b161 (fun M x1 x2 x3 x4 => fX12_firstOf_b7 q M x1 x2 x3 x4) M3 x1 x2 x3 x4) else none) else none))
set_option maxRecDepth 100000 in
set_option maxHeartbeats 4000000 in
theorem bX12_firstOf_7 {x : Cx} {y : Ly} (l : Launch) (K : VK x l rmX12_firstOf y 7 cX12_firstOf RX12 wqX12_firstOf) (hy : y.2.2.2.2 = 1) {z : Int32 × QM} (hQ : VQ x y (some (.int z.1)) z.2 (some .int)) : ∀ (q : Nat) {M : QM} {x1 : Int32} {x2 : Int32} {x3 : Int32} {x4 : Int32},  fX12_firstOf_b7 q M x1 x2 x3 x4 = some z → V x y 7 M 7 [(0, .ref (ly_o y 1000)), (1, .int x1), (2, .int x2), (3, .int x3), (4, .int x4)] [] := by
  intro q
  induction q with
  | zero =>
    intro M x1 x2 x3 x4  hF
    rw [fX12_firstOf_b7] at hF
    cases hF
  | succ q ih =>
    intro M x1 x2 x3 x4  hF
    rw [fX12_firstOf_b7] at hF
    refine v_iload (pc := 7) K dX12_firstOf_7 4 rfl ?_
    refine v_aload_n (pc := 9) K dX12_firstOf_9 0 rfl ?_
    refine gX12_quarrels (pc := 10) K hy (by decide) jn_X12 (List.mem_cons_of_mem _ jl_X12_389) dX12_firstOf_10 ?_
    refine v_icmp_ge (pc := 13) (tgt := 167) K dX12_firstOf_13 (by decide) hF (fun c9 hF => ?_) (fun c9 hF => ?_)
    · refine v_iload_n (pc := 167) K dX12_firstOf_167 2 rfl ?_
      have hz := (Option.some.inj hF).symm
      subst hz
      exact v_iret (pc := 168) K hQ dX12_firstOf_168
    · refine v_aload_n (pc := 16) K dX12_firstOf_16 0 rfl ?_
      refine v_iload (pc := 17) K dX12_firstOf_17 4 rfl ?_
      obtain ⟨r2, M3, hc1, hF⟩ := q_bE hF
      refine v_callV (pc := 19) (ci := 11) (As := [.int x4]) (rest := []) (st' := [.int r2]) (r := some (.int r2)) (M1 := M3) K (kX12_isOn l K.2.2.2.2.2.2.1 hy hc1) (jg_V jl_X12_432 jw_i_X12_isOn jw_s_X12_isOn jw_n_X12 jw_c_X12_isOn) rfl rfl rfl jd_X12_isOn ⟨Nat.le_of_ble_eq_true rfl, Nat.le_of_ble_eq_true rfl⟩ rfl rfl (Nat.le_of_ble_eq_true rfl) (by decide) (okc_1 hy) rfl dX12_firstOf_19 rfl ?_
      refine v_if_eq (pc := 22) (tgt := 161) K dX12_firstOf_22 (by decide) hF (fun c8 hF => ?_) (fun c8 hF => ?_)
      · exact bX12_firstOf_161 l K hy hQ ih hF
      · refine v_aload_n (pc := 25) K dX12_firstOf_25 0 rfl ?_
        refine gX12_told (pc := 26) K hy (by decide) jn_X12 (List.mem_cons_of_mem _ jl_X12_82) dX12_firstOf_26 ?_
        refine v_bipush (pc := 29) (v := 64) K dX12_firstOf_29 rfl ?_
        refine v_iload (pc := 31) K dX12_firstOf_31 4 rfl ?_
        refine v_imul (pc := 33) K dX12_firstOf_33 ?_
        refine iX12_told (pc := 34) K hy (by decide) hF dX12_firstOf_34 (fun hi4 hF => ?_)
        refine v_iload_n (pc := 35) K dX12_firstOf_35 1 rfl ?_
        refine v_icmp_eq (pc := 36) (tgt := 58) K dX12_firstOf_36 (by decide) hF (fun c7 hF => ?_) (fun c7 hF => ?_)
        · exact bX12_firstOf_58 l K hy hQ ih hF
        · refine v_aload_n (pc := 39) K dX12_firstOf_39 0 rfl ?_
          refine gX12_told (pc := 40) K hy (by decide) jn_X12 (List.mem_cons_of_mem _ jl_X12_82) dX12_firstOf_40 ?_
          refine v_bipush (pc := 43) (v := 64) K dX12_firstOf_43 rfl ?_
          refine v_iload (pc := 45) K dX12_firstOf_45 4 rfl ?_
          refine v_imul (pc := 47) K dX12_firstOf_47 ?_
          refine v_iconst (pc := 48) (v := 1) K dX12_firstOf_48 rfl ?_
          refine v_iadd (pc := 49) K dX12_firstOf_49 ?_
          refine iX12_told (pc := 50) K hy (by decide) hF dX12_firstOf_50 (fun hi5 hF => ?_)
          refine v_iload_n (pc := 51) K dX12_firstOf_51 1 rfl ?_
          refine v_icmp_eq (pc := 52) (tgt := 58) K dX12_firstOf_52 (by decide) hF (fun c6 hF => ?_) (fun c6 hF => ?_)
          · exact bX12_firstOf_58 l K hy hQ ih hF
          · refine v_goto (pc := 55) (tgt := 161) K dX12_firstOf_55 (by decide) ?_
            exact bX12_firstOf_161 l K hy hQ ih hF
def fX12_firstOf (M : QM) (x1 : Int32) : Option (Int32 × QM) := (fX12_firstOf_b7 q_F M x1 (-1 : Int32) (0 : Int32) (0 : Int32))
set_option maxRecDepth 100000 in
set_option maxHeartbeats 4000000 in
theorem bX12_firstOf_0 {x : Cx} {y : Ly} (l : Launch) (K : VK x l rmX12_firstOf y 7 cX12_firstOf RX12 wqX12_firstOf) (hy : y.2.2.2.2 = 1) {z : Int32 × QM} (hQ : VQ x y (some (.int z.1)) z.2 (some .int)) {M : QM} {x1 : Int32} (hF : fX12_firstOf M x1 = some z) : V x y 7 M 0 [(0, .ref (ly_o y 1000)), (1, .int x1)] [] := by
  unfold fX12_firstOf at hF
  refine v_iconst (pc := 0) (v := -1) K dX12_firstOf_0 rfl ?_
  refine v_istore_n (pc := 1) (lv' := [(2, .int (-1 : Int32)), (0, .ref (ly_o y 1000)), (1, .int x1)]) K dX12_firstOf_1 2 rfl (by decide) rfl ?_
  refine v_iconst (pc := 2) (v := 0) K dX12_firstOf_2 rfl ?_
  refine v_istore_n (pc := 3) (lv' := [(3, .int (0 : Int32)), (2, .int (-1 : Int32)), (0, .ref (ly_o y 1000)), (1, .int x1)]) K dX12_firstOf_3 3 rfl (by decide) rfl ?_
  refine v_iconst (pc := 4) (v := 0) K dX12_firstOf_4 rfl ?_
  refine v_istore (pc := 5) (lv' := [(4, .int (0 : Int32)), (3, .int (0 : Int32)), (2, .int (-1 : Int32)), (0, .ref (ly_o y 1000)), (1, .int x1)]) K 4 dX12_firstOf_5 (by decide) rfl ?_
  refine v_sub [3, 4, 2, 1, 0] rfl ?_
  exact bX12_firstOf_7 l K hy hQ q_F hF
set_option maxRecDepth 100000 in
set_option maxHeartbeats 4000000 in
theorem kX12_firstOf (l : Launch) {y : Ly} (hJ : ly_J y) (hy : y.2.2.2.2 = 1) {M M1 : QM} {r : Int32} {x1 : Int32} (hF : fX12_firstOf M x1 = some (r, M1)) : Met l yX12_firstOf wqX12_firstOf rmX12_firstOf (q_P y [.ref (ly_o y 1000), .int x1] M) (q_E y (some (.int r)) M1) 0 0 (ly_A y) :=
  q_met (by decide) rfl hJ rfl rfl rfl (fun x K hQ => bX12_firstOf_0 l K hy (z := (r, M1)) hQ  hF)
-- ===== X12_waitsFor (I)I
theorem jd_X12_waitsFor : yX12_waitsFor.cls = RX12 ∧ yX12_waitsFor.cls ≠ "java/lang/invoke/MethodHandle" ∧ yX12_waitsFor.cls ≠ "java/lang/invoke/VarHandle" ∧ (parseMethodDescriptor yX12_waitsFor.desc).map (fun d => d.parameters.length) = some 1 := by decide +kernel
abbrev wqX12_waitsFor : List Cond := .code yX12_waitsFor cX12_waitsFor 3 (some .int) :: wsL_law
abbrev rmX12_waitsFor : Room := { frames := 2, cells := 0, slots := 0, locals := 47 }
def fX12_waitsFor_b45 (M : QM) (x1 : Int32) (s0 : Int32) : Option (Int32 × QM) := some (s0 &&& (((1 : Int32) <<< (x1 &&& (31 : Int32))) ^^^ (-1 : Int32)), M)
set_option maxRecDepth 100000 in
set_option maxHeartbeats 4000000 in
theorem bX12_waitsFor_45 {x : Cx} {y : Ly} (l : Launch) (K : VK x l rmX12_waitsFor y 3 cX12_waitsFor RX12 wqX12_waitsFor) (hy : y.2.2.2.2 = 1) {z : Int32 × QM} (hQ : VQ x y (some (.int z.1)) z.2 (some .int)) {M : QM} {x1 : Int32} {s0 : Int32} (hF : fX12_waitsFor_b45 M x1 s0 = some z) : V x y 3 M 45 [(1, .int x1)] [.int s0] := by
  unfold fX12_waitsFor_b45 at hF
  refine v_istore_n (pc := 45) (lv' := [(2, .int s0), (1, .int x1)]) K dX12_waitsFor_45 2 rfl (by decide) rfl ?_
  refine v_iload_n (pc := 46) K dX12_waitsFor_46 0 rfl ?_
  refine v_iconst (pc := 47) (v := 1) K dX12_waitsFor_47 rfl ?_
  refine v_iload_n (pc := 48) K dX12_waitsFor_48 1 rfl ?_
  refine v_ishl (pc := 49) K dX12_waitsFor_49 ?_
  refine v_iconst (pc := 50) (v := -1) K dX12_waitsFor_50 rfl ?_
  refine v_ixor (pc := 51) K dX12_waitsFor_51 ?_
  refine v_iand (pc := 52) K dX12_waitsFor_52 ?_
  have hz := (Option.some.inj hF).symm
  subst hz
  exact v_iret (pc := 53) K hQ dX12_waitsFor_53
def fX12_waitsFor (M : QM) (x1 : Int32) : Option (Int32 × QM) := (q_b (fX12_isOn M x1) fun r2 M3 => if r2 = (0 : Int32) then (fX12_waitsFor_b45 M3 x1 (0 : Int32)) else (if q_in ((64 : Int32) * x1) 1536 then (q_b (fX12_firstOf M3 (q_a M3 1000 43 ((64 : Int32) * x1).toNatClampNeg)) fun r6 M7 => (if q_in (((64 : Int32) * x1) + (1 : Int32)) 1536 then (q_b (fX12_firstOf M7 (q_a M7 1000 43 (((64 : Int32) * x1) + (1 : Int32)).toNatClampNeg)) fun r10 M11 => (q_t (((1 : Int32) <<< (r6 &&& (31 : Int32))) ||| ((1 : Int32) <<< (r10 &&& (31 : Int32)))) fun v12 => (fX12_waitsFor_b45 M11 x1 v12))) else none)) else none))
set_option maxRecDepth 100000 in
set_option maxHeartbeats 4000000 in
theorem bX12_waitsFor_0 {x : Cx} {y : Ly} (l : Launch) (K : VK x l rmX12_waitsFor y 3 cX12_waitsFor RX12 wqX12_waitsFor) (hy : y.2.2.2.2 = 1) {z : Int32 × QM} (hQ : VQ x y (some (.int z.1)) z.2 (some .int)) {M : QM} {x1 : Int32} (hF : fX12_waitsFor M x1 = some z) : V x y 3 M 0 [(0, .ref (ly_o y 1000)), (1, .int x1)] [] := by
  unfold fX12_waitsFor at hF
  refine v_aload_n (pc := 0) K dX12_waitsFor_0 0 rfl ?_
  refine v_iload_n (pc := 1) K dX12_waitsFor_1 1 rfl ?_
  obtain ⟨r2, M3, hc1, hF⟩ := q_bE hF
  refine v_callV (pc := 2) (ci := 11) (As := [.int x1]) (rest := []) (st' := [.int r2]) (r := some (.int r2)) (M1 := M3) K (kX12_isOn l K.2.2.2.2.2.2.1 hy hc1) (jg_V jl_X12_432 jw_i_X12_isOn jw_s_X12_isOn jw_n_X12 jw_c_X12_isOn) rfl rfl rfl jd_X12_isOn ⟨Nat.le_of_ble_eq_true rfl, Nat.le_of_ble_eq_true rfl⟩ rfl rfl (Nat.le_of_ble_eq_true rfl) (by decide) (okc_1 hy) rfl dX12_waitsFor_2 rfl ?_
  refine v_if_eq (pc := 5) (tgt := 44) K dX12_waitsFor_5 (by decide) hF (fun c13 hF => ?_) (fun c13 hF => ?_)
  · refine v_iconst (pc := 44) (v := 0) K dX12_waitsFor_44 rfl ?_
    refine v_sub [1] rfl ?_
    exact bX12_waitsFor_45 l K hy hQ hF
  · refine v_iconst (pc := 8) (v := 1) K dX12_waitsFor_8 rfl ?_
    refine v_aload_n (pc := 9) K dX12_waitsFor_9 0 rfl ?_
    refine v_aload_n (pc := 10) K dX12_waitsFor_10 0 rfl ?_
    refine gX12_told (pc := 11) K hy (by decide) jn_X12 (List.mem_cons_of_mem _ jl_X12_82) dX12_waitsFor_11 ?_
    refine v_bipush (pc := 14) (v := 64) K dX12_waitsFor_14 rfl ?_
    refine v_iload_n (pc := 16) K dX12_waitsFor_16 1 rfl ?_
    refine v_imul (pc := 17) K dX12_waitsFor_17 ?_
    refine iX12_told (pc := 18) K hy (by decide) hF dX12_waitsFor_18 (fun hi4 hF => ?_)
    obtain ⟨r6, M7, hc5, hF⟩ := q_bE hF
    refine v_callV (pc := 19) (ci := 11) (As := [.int (q_a M3 1000 43 ((64 : Int32) * x1).toNatClampNeg)]) (rest := [.int (1 : Int32)]) (st' := [.int r6, .int (1 : Int32)]) (r := some (.int r6)) (M1 := M7) K (kX12_firstOf l K.2.2.2.2.2.2.1 hy hc5) (jg_V jl_X12_435 jw_i_X12_firstOf jw_s_X12_firstOf jw_n_X12 jw_c_X12_firstOf) rfl rfl rfl jd_X12_firstOf ⟨Nat.le_of_ble_eq_true rfl, Nat.le_of_ble_eq_true rfl⟩ rfl rfl (Nat.le_of_ble_eq_true rfl) (by decide) (okc_1 hy) rfl dX12_waitsFor_19 rfl ?_
    refine v_ishl (pc := 22) K dX12_waitsFor_22 ?_
    refine v_iconst (pc := 23) (v := 1) K dX12_waitsFor_23 rfl ?_
    refine v_aload_n (pc := 24) K dX12_waitsFor_24 0 rfl ?_
    refine v_aload_n (pc := 25) K dX12_waitsFor_25 0 rfl ?_
    refine gX12_told (pc := 26) K hy (by decide) jn_X12 (List.mem_cons_of_mem _ jl_X12_82) dX12_waitsFor_26 ?_
    refine v_bipush (pc := 29) (v := 64) K dX12_waitsFor_29 rfl ?_
    refine v_iload_n (pc := 31) K dX12_waitsFor_31 1 rfl ?_
    refine v_imul (pc := 32) K dX12_waitsFor_32 ?_
    refine v_iconst (pc := 33) (v := 1) K dX12_waitsFor_33 rfl ?_
    refine v_iadd (pc := 34) K dX12_waitsFor_34 ?_
    refine iX12_told (pc := 35) K hy (by decide) hF dX12_waitsFor_35 (fun hi8 hF => ?_)
    obtain ⟨r10, M11, hc9, hF⟩ := q_bE hF
    refine v_callV (pc := 36) (ci := 11) (As := [.int (q_a M7 1000 43 (((64 : Int32) * x1) + (1 : Int32)).toNatClampNeg)]) (rest := [.int (1 : Int32), .int ((1 : Int32) <<< (r6 &&& (31 : Int32)))]) (st' := [.int r10, .int (1 : Int32), .int ((1 : Int32) <<< (r6 &&& (31 : Int32)))]) (r := some (.int r10)) (M1 := M11) K (kX12_firstOf l K.2.2.2.2.2.2.1 hy hc9) (jg_V jl_X12_435 jw_i_X12_firstOf jw_s_X12_firstOf jw_n_X12 jw_c_X12_firstOf) rfl rfl rfl jd_X12_firstOf ⟨Nat.le_of_ble_eq_true rfl, Nat.le_of_ble_eq_true rfl⟩ rfl rfl (Nat.le_of_ble_eq_true rfl) (by decide) (okc_1 hy) rfl dX12_waitsFor_36 rfl ?_
    refine v_ishl (pc := 39) K dX12_waitsFor_39 ?_
    refine v_ior (pc := 40) K dX12_waitsFor_40 ?_
    refine v_nmI hF (fun v12 hF => ?_)
    refine v_goto (pc := 41) (tgt := 45) K dX12_waitsFor_41 (by decide) ?_
    refine v_sub [1] rfl ?_
    exact bX12_waitsFor_45 l K hy hQ hF
set_option maxRecDepth 100000 in
set_option maxHeartbeats 4000000 in
theorem kX12_waitsFor (l : Launch) {y : Ly} (hJ : ly_J y) (hy : y.2.2.2.2 = 1) {M M1 : QM} {r : Int32} {x1 : Int32} (hF : fX12_waitsFor M x1 = some (r, M1)) : Met l yX12_waitsFor wqX12_waitsFor rmX12_waitsFor (q_P y [.ref (ly_o y 1000), .int x1] M) (q_E y (some (.int r)) M1) 0 0 (ly_A y) :=
  q_met (by decide) rfl hJ rfl rfl rfl (fun x K hQ => bX12_waitsFor_0 l K hy (z := (r, M1)) hQ  hF)
-- ===== X12_waits (I)I
theorem jd_X12_waits : yX12_waits.cls = RX12 ∧ yX12_waits.cls ≠ "java/lang/invoke/MethodHandle" ∧ yX12_waits.cls ≠ "java/lang/invoke/VarHandle" ∧ (parseMethodDescriptor yX12_waits.desc).map (fun d => d.parameters.length) = some 1 := by decide +kernel
abbrev wqX12_waits : List Cond := .code yX12_waits cX12_waits 2 (some .int) :: wsL_law
abbrev rmX12_waits : Room := { frames := 3, cells := 0, slots := 0, locals := 69 }
def fX12_waits (M : QM) (x1 : Int32) : Option (Int32 × QM) := (q_b (fX12_isQuarrel M x1) fun r2 M3 => if r2 = (0 : Int32) then some ((-1 : Int32), M3) else (q_b (fX12_waitsFor M3 x1) fun r5 M6 => some (r5, M6)))
set_option maxRecDepth 100000 in
set_option maxHeartbeats 4000000 in
theorem bX12_waits_0 {x : Cx} {y : Ly} (l : Launch) (K : VK x l rmX12_waits y 2 cX12_waits RX12 wqX12_waits) (hy : y.2.2.2.2 = 1) {z : Int32 × QM} (hQ : VQ x y (some (.int z.1)) z.2 (some .int)) {M : QM} {x1 : Int32} (hF : fX12_waits M x1 = some z) : V x y 2 M 0 [(0, .ref (ly_o y 1000)), (1, .int x1)] [] := by
  unfold fX12_waits at hF
  refine v_aload_n (pc := 0) K dX12_waits_0 0 rfl ?_
  refine v_iload_n (pc := 1) K dX12_waits_1 1 rfl ?_
  obtain ⟨r2, M3, hc1, hF⟩ := q_bE hF
  refine v_callV (pc := 2) (ci := 11) (As := [.int x1]) (rest := []) (st' := [.int r2]) (r := some (.int r2)) (M1 := M3) K (kX12_isQuarrel l K.2.2.2.2.2.2.1 hy hc1) (jg_V jl_X12_408 jw_i_X12_isQuarrel jw_s_X12_isQuarrel jw_n_X12 jw_c_X12_isQuarrel) rfl rfl rfl jd_X12_isQuarrel ⟨Nat.le_of_ble_eq_true rfl, Nat.le_of_ble_eq_true rfl⟩ rfl rfl (Nat.le_of_ble_eq_true rfl) (by decide) (okc_1 hy) rfl dX12_waits_2 rfl ?_
  refine v_if_eq (pc := 5) (tgt := 16) K dX12_waits_5 (by decide) hF (fun c7 hF => ?_) (fun c7 hF => ?_)
  · refine v_iconst (pc := 16) (v := -1) K dX12_waits_16 rfl ?_
    have hz := (Option.some.inj hF).symm
    subst hz
    exact v_iret (pc := 17) K hQ dX12_waits_17
  · refine v_aload_n (pc := 8) K dX12_waits_8 0 rfl ?_
    refine v_iload_n (pc := 9) K dX12_waits_9 1 rfl ?_
    obtain ⟨r5, M6, hc4, hF⟩ := q_bE hF
    refine v_callV (pc := 10) (ci := 11) (As := [.int x1]) (rest := []) (st' := [.int r5]) (r := some (.int r5)) (M1 := M6) K (kX12_waitsFor l K.2.2.2.2.2.2.1 hy hc4) (jg_V jl_X12_438 jw_i_X12_waitsFor jw_s_X12_waitsFor jw_n_X12 jw_c_X12_waitsFor) rfl rfl rfl jd_X12_waitsFor ⟨Nat.le_of_ble_eq_true rfl, Nat.le_of_ble_eq_true rfl⟩ rfl rfl (Nat.le_of_ble_eq_true rfl) (by decide) (okc_1 hy) rfl dX12_waits_10 rfl ?_
    refine v_goto (pc := 13) (tgt := 17) K dX12_waits_13 (by decide) ?_
    have hz := (Option.some.inj hF).symm
    subst hz
    exact v_iret (pc := 17) K hQ dX12_waits_17
set_option maxRecDepth 100000 in
set_option maxHeartbeats 4000000 in
theorem kX12_waits (l : Launch) {y : Ly} (hJ : ly_J y) (hy : y.2.2.2.2 = 1) {M M1 : QM} {r : Int32} {x1 : Int32} (hF : fX12_waits M x1 = some (r, M1)) : Met l yX12_waits wqX12_waits rmX12_waits (q_P y [.ref (ly_o y 1000), .int x1] M) (q_E y (some (.int r)) M1) 0 0 (ly_A y) :=
  q_met (by decide) rfl hJ rfl rfl rfl (fun x K hQ => bX12_waits_0 l K hy (z := (r, M1)) hQ  hF)
-- ===== X12_ring (I)I
theorem jd_X12_ring : yX12_ring.cls = RX12 ∧ yX12_ring.cls ≠ "java/lang/invoke/MethodHandle" ∧ yX12_ring.cls ≠ "java/lang/invoke/VarHandle" ∧ (parseMethodDescriptor yX12_ring.desc).map (fun d => d.parameters.length) = some 1 := by decide +kernel
abbrev wqX12_ring : List Cond := .code yX12_ring cX12_ring 5 (some .int) :: wsL_law
abbrev rmX12_ring : Room := { frames := 3, cells := 0, slots := 0, locals := 69 }
def fX12_ring_b57 (k27 : QM → Int32 → Int32 → Int32 → Int32 → Option (Int32 × QM)) (k18 : QM → Int32 → Int32 → Int32 → Option (Int32 × QM)) (M : QM) (x1 : Int32) (x3 : Int32) (x4 : Int32) (s0 : Int32) (s1 : Int32) : Option (Int32 × QM) := (k27 M x1 (s1 ||| s0) x3 (x4 + (1 : Int32)))
set_option maxRecDepth 100000 in
set_option maxHeartbeats 4000000 in
theorem bX12_ring_57 {x : Cx} {y : Ly} (l : Launch) (K : VK x l rmX12_ring y 5 cX12_ring RX12 wqX12_ring) (hy : y.2.2.2.2 = 1) {z : Int32 × QM} (hQ : VQ x y (some (.int z.1)) z.2 (some .int)) {k27 : QM → Int32 → Int32 → Int32 → Int32 → Option (Int32 × QM)} (hk27 : ∀ {M : QM} {x1 : Int32} {x2 : Int32} {x3 : Int32} {x4 : Int32}, k27 M x1 x2 x3 x4 = some z → V x y 5 M 27 [(0, .ref (ly_o y 1000)), (1, .int x1), (2, .int x2), (3, .int x3), (4, .int x4)] []) {k18 : QM → Int32 → Int32 → Int32 → Option (Int32 × QM)} (hk18 : ∀ {M : QM} {x1 : Int32} {x2 : Int32} {x3 : Int32}, k18 M x1 x2 x3 = some z → V x y 5 M 18 [(0, .ref (ly_o y 1000)), (1, .int x1), (2, .int x2), (3, .int x3)] []) {M : QM} {x1 : Int32} {x3 : Int32} {x4 : Int32} {s0 : Int32} {s1 : Int32} (hF : fX12_ring_b57 k27 k18 M x1 x3 x4 s0 s1 = some z) : V x y 5 M 57 [(0, .ref (ly_o y 1000)), (1, .int x1), (3, .int x3), (4, .int x4)] [.int s0, .int s1] := by
  unfold fX12_ring_b57 at hF
  refine v_ior (pc := 57) K dX12_ring_57 ?_
  refine v_istore_n (pc := 58) (lv' := [(2, .int (s1 ||| s0)), (0, .ref (ly_o y 1000)), (1, .int x1), (3, .int x3), (4, .int x4)]) K dX12_ring_58 2 rfl (by decide) rfl ?_
  refine v_iinc (pc := 59) (v1 := x4 + (1 : Int32)) (lv' := [(4, .int (x4 + (1 : Int32))), (2, .int (s1 ||| s0)), (0, .ref (ly_o y 1000)), (1, .int x1), (3, .int x3)]) K dX12_ring_59 4 rfl rfl (by decide) rfl ?_
  refine v_goto (pc := 62) (tgt := 27) K dX12_ring_62 (by decide) ?_
  refine v_sub [2, 3, 1, 4, 0] rfl ?_
  exact hk27 hF
def fX12_ring_b65 (k18 : QM → Int32 → Int32 → Int32 → Option (Int32 × QM)) (M : QM) (x1 : Int32) (x2 : Int32) (x3 : Int32) : Option (Int32 × QM) := (k18 M x1 x2 (x3 + (1 : Int32)))
set_option maxRecDepth 100000 in
set_option maxHeartbeats 4000000 in
theorem bX12_ring_65 {x : Cx} {y : Ly} (l : Launch) (K : VK x l rmX12_ring y 5 cX12_ring RX12 wqX12_ring) (hy : y.2.2.2.2 = 1) {z : Int32 × QM} (hQ : VQ x y (some (.int z.1)) z.2 (some .int)) {k18 : QM → Int32 → Int32 → Int32 → Option (Int32 × QM)} (hk18 : ∀ {M : QM} {x1 : Int32} {x2 : Int32} {x3 : Int32}, k18 M x1 x2 x3 = some z → V x y 5 M 18 [(0, .ref (ly_o y 1000)), (1, .int x1), (2, .int x2), (3, .int x3)] []) {M : QM} {x1 : Int32} {x2 : Int32} {x3 : Int32} (hF : fX12_ring_b65 k18 M x1 x2 x3 = some z) : V x y 5 M 65 [(0, .ref (ly_o y 1000)), (1, .int x1), (2, .int x2), (3, .int x3)] [] := by
  unfold fX12_ring_b65 at hF
  refine v_iinc (pc := 65) (v1 := x3 + (1 : Int32)) (lv' := [(3, .int (x3 + (1 : Int32))), (0, .ref (ly_o y 1000)), (1, .int x1), (2, .int x2)]) K dX12_ring_65 3 rfl rfl (by decide) rfl ?_
  refine v_goto (pc := 68) (tgt := 18) K dX12_ring_68 (by decide) ?_
  refine v_sub [1, 2, 3, 0] rfl ?_
  exact hk18 hF
def fX12_ring_b27 (k18 : QM → Int32 → Int32 → Int32 → Option (Int32 × QM)) : Nat → QM → Int32 → Int32 → Int32 → Int32 → Option (Int32 × QM)
  | 0, _, _, _, _, _ => none
  | q + 1, M, x1, x2, x3, x4 => if (q_i M 1000 42) ≤ x4 then (fX12_ring_b65 k18 M x1 x2 x3) else if ((x2 >>> (x4 &&& (31 : Int32))) &&& (1 : Int32)) ≠ (1 : Int32) then (fX12_ring_b57 (fun M x1 x2 x3 x4 => fX12_ring_b27 k18 q M x1 x2 x3 x4) k18 M x1 x3 x4 (0 : Int32) x2) else (q_b (fX12_waitsFor M x4) fun r10 M11 => (fX12_ring_b57 (fun M x1 x2 x3 x4 => fX12_ring_b27 k18 q M x1 x2 x3 x4) k18 M11 x1 x3 x4 r10 x2))
set_option maxRecDepth 100000 in
set_option maxHeartbeats 4000000 in
theorem bX12_ring_27 {x : Cx} {y : Ly} (l : Launch) (K : VK x l rmX12_ring y 5 cX12_ring RX12 wqX12_ring) (hy : y.2.2.2.2 = 1) {z : Int32 × QM} (hQ : VQ x y (some (.int z.1)) z.2 (some .int)) {k18 : QM → Int32 → Int32 → Int32 → Option (Int32 × QM)} (hk18 : ∀ {M : QM} {x1 : Int32} {x2 : Int32} {x3 : Int32}, k18 M x1 x2 x3 = some z → V x y 5 M 18 [(0, .ref (ly_o y 1000)), (1, .int x1), (2, .int x2), (3, .int x3)] []) : ∀ (q : Nat) {M : QM} {x1 : Int32} {x2 : Int32} {x3 : Int32} {x4 : Int32},  fX12_ring_b27 k18 q M x1 x2 x3 x4 = some z → V x y 5 M 27 [(0, .ref (ly_o y 1000)), (1, .int x1), (2, .int x2), (3, .int x3), (4, .int x4)] [] := by
  intro q
  induction q with
  | zero =>
    intro M x1 x2 x3 x4  hF
    rw [fX12_ring_b27] at hF
    cases hF
  | succ q ih =>
    intro M x1 x2 x3 x4  hF
    rw [fX12_ring_b27] at hF
    refine v_iload (pc := 27) K dX12_ring_27 4 rfl ?_
    refine v_aload_n (pc := 29) K dX12_ring_29 0 rfl ?_
    refine gX12_quarrels (pc := 30) K hy (by decide) jn_X12 (List.mem_cons_of_mem _ jl_X12_389) dX12_ring_30 ?_
    refine v_icmp_ge (pc := 33) (tgt := 65) K dX12_ring_33 (by decide) hF (fun c13 hF => ?_) (fun c13 hF => ?_)
    · refine v_sub [0, 1, 2, 3] rfl ?_
      exact bX12_ring_65 l K hy hQ hk18 hF
    · refine v_iload_n (pc := 36) K dX12_ring_36 2 rfl ?_
      refine v_iload_n (pc := 37) K dX12_ring_37 2 rfl ?_
      refine v_iload (pc := 38) K dX12_ring_38 4 rfl ?_
      refine v_ishr (pc := 40) K dX12_ring_40 ?_
      refine v_iconst (pc := 41) (v := 1) K dX12_ring_41 rfl ?_
      refine v_iand (pc := 42) K dX12_ring_42 ?_
      refine v_iconst (pc := 43) (v := 1) K dX12_ring_43 rfl ?_
      refine v_icmp_ne (pc := 44) (tgt := 56) K dX12_ring_44 (by decide) hF (fun c12 hF => ?_) (fun c12 hF => ?_)
      · refine v_iconst (pc := 56) (v := 0) K dX12_ring_56 rfl ?_
        refine v_sub [0, 1, 3, 4] rfl ?_
        exact bX12_ring_57 l K hy hQ ih hk18 hF
      · refine v_aload_n (pc := 47) K dX12_ring_47 0 rfl ?_
        refine v_iload (pc := 48) K dX12_ring_48 4 rfl ?_
        obtain ⟨r10, M11, hc9, hF⟩ := q_bE hF
        refine v_callV (pc := 50) (ci := 11) (As := [.int x4]) (rest := [.int x2]) (st' := [.int r10, .int x2]) (r := some (.int r10)) (M1 := M11) K (kX12_waitsFor l K.2.2.2.2.2.2.1 hy hc9) (jg_V jl_X12_438 jw_i_X12_waitsFor jw_s_X12_waitsFor jw_n_X12 jw_c_X12_waitsFor) rfl rfl rfl jd_X12_waitsFor ⟨Nat.le_of_ble_eq_true rfl, Nat.le_of_ble_eq_true rfl⟩ rfl rfl (Nat.le_of_ble_eq_true rfl) (by decide) (okc_1 hy) rfl dX12_ring_50 rfl ?_
        refine v_goto (pc := 53) (tgt := 57) K dX12_ring_53 (by decide) ?_
        refine v_sub [0, 1, 3, 4] rfl ?_
        exact bX12_ring_57 l K hy hQ ih hk18 hF
def fX12_ring_b71 (M : QM) (x1 : Int32) (x2 : Int32) : Option (Int32 × QM) := some ((x2 >>> (x1 &&& (31 : Int32))) &&& (1 : Int32), M)
set_option maxRecDepth 100000 in
set_option maxHeartbeats 4000000 in
theorem bX12_ring_71 {x : Cx} {y : Ly} (l : Launch) (K : VK x l rmX12_ring y 5 cX12_ring RX12 wqX12_ring) (hy : y.2.2.2.2 = 1) {z : Int32 × QM} (hQ : VQ x y (some (.int z.1)) z.2 (some .int)) {M : QM} {x1 : Int32} {x2 : Int32} (hF : fX12_ring_b71 M x1 x2 = some z) : V x y 5 M 71 [(1, .int x1), (2, .int x2)] [] := by
  unfold fX12_ring_b71 at hF
  refine v_iload_n (pc := 71) K dX12_ring_71 1 rfl ?_
  refine v_iload_n (pc := 72) K dX12_ring_72 0 rfl ?_
  refine v_ishr (pc := 73) K dX12_ring_73 ?_
  refine v_iconst (pc := 74) (v := 1) K dX12_ring_74 rfl ?_
  refine v_iand (pc := 75) K dX12_ring_75 ?_
  have hz := (Option.some.inj hF).symm
  subst hz
  exact v_iret (pc := 76) K hQ dX12_ring_76
def fX12_ring_b18 : Nat → QM → Int32 → Int32 → Int32 → Option (Int32 × QM)
  | 0, _, _, _, _ => none
  | q + 1, M, x1, x2, x3 => if (24 : Int32) ≤ x3 then (fX12_ring_b71 M x1 x2) else (fX12_ring_b27 (fun M x1 x2 x3 => fX12_ring_b18 q M x1 x2 x3) q_F M x1 x2 x3 (0 : Int32))
set_option maxRecDepth 100000 in
set_option maxHeartbeats 4000000 in
theorem bX12_ring_18 {x : Cx} {y : Ly} (l : Launch) (K : VK x l rmX12_ring y 5 cX12_ring RX12 wqX12_ring) (hy : y.2.2.2.2 = 1) {z : Int32 × QM} (hQ : VQ x y (some (.int z.1)) z.2 (some .int)) : ∀ (q : Nat) {M : QM} {x1 : Int32} {x2 : Int32} {x3 : Int32},  fX12_ring_b18 q M x1 x2 x3 = some z → V x y 5 M 18 [(0, .ref (ly_o y 1000)), (1, .int x1), (2, .int x2), (3, .int x3)] [] := by
  intro q
  induction q with
  | zero =>
    intro M x1 x2 x3  hF
    rw [fX12_ring_b18] at hF
    cases hF
  | succ q ih =>
    intro M x1 x2 x3  hF
    rw [fX12_ring_b18] at hF
    refine v_iload_n (pc := 18) K dX12_ring_18 3 rfl ?_
    refine v_bipush (pc := 19) (v := 24) K dX12_ring_19 rfl ?_
    refine v_icmp_ge (pc := 21) (tgt := 71) K dX12_ring_21 (by decide) hF (fun c8 hF => ?_) (fun c8 hF => ?_)
    · refine v_sub [1, 2] rfl ?_
      exact bX12_ring_71 l K hy hQ hF
    · refine v_iconst (pc := 24) (v := 0) K dX12_ring_24 rfl ?_
      refine v_istore (pc := 25) (lv' := [(4, .int (0 : Int32)), (0, .ref (ly_o y 1000)), (1, .int x1), (2, .int x2), (3, .int x3)]) K 4 dX12_ring_25 (by decide) rfl ?_
      refine v_sub [1, 2, 3, 4, 0] rfl ?_
      exact bX12_ring_27 l K hy hQ ih q_F hF
def fX12_ring (M : QM) (x1 : Int32) : Option (Int32 × QM) := (q_b (fX12_isQuarrel M x1) fun r2 M3 => if r2 ≠ (0 : Int32) then (q_b (fX12_waitsFor M3 x1) fun r5 M6 => (fX12_ring_b18 q_F M6 x1 r5 (0 : Int32))) else some ((-1 : Int32), M3))
set_option maxRecDepth 100000 in
set_option maxHeartbeats 4000000 in
theorem bX12_ring_0 {x : Cx} {y : Ly} (l : Launch) (K : VK x l rmX12_ring y 5 cX12_ring RX12 wqX12_ring) (hy : y.2.2.2.2 = 1) {z : Int32 × QM} (hQ : VQ x y (some (.int z.1)) z.2 (some .int)) {M : QM} {x1 : Int32} (hF : fX12_ring M x1 = some z) : V x y 5 M 0 [(0, .ref (ly_o y 1000)), (1, .int x1)] [] := by
  unfold fX12_ring at hF
  refine v_aload_n (pc := 0) K dX12_ring_0 0 rfl ?_
  refine v_iload_n (pc := 1) K dX12_ring_1 1 rfl ?_
  obtain ⟨r2, M3, hc1, hF⟩ := q_bE hF
  refine v_callV (pc := 2) (ci := 11) (As := [.int x1]) (rest := []) (st' := [.int r2]) (r := some (.int r2)) (M1 := M3) K (kX12_isQuarrel l K.2.2.2.2.2.2.1 hy hc1) (jg_V jl_X12_408 jw_i_X12_isQuarrel jw_s_X12_isQuarrel jw_n_X12 jw_c_X12_isQuarrel) rfl rfl rfl jd_X12_isQuarrel ⟨Nat.le_of_ble_eq_true rfl, Nat.le_of_ble_eq_true rfl⟩ rfl rfl (Nat.le_of_ble_eq_true rfl) (by decide) (okc_1 hy) rfl dX12_ring_2 rfl ?_
  refine v_if_ne (pc := 5) (tgt := 10) K dX12_ring_5 (by decide) hF (fun c7 hF => ?_) (fun c7 hF => ?_)
  · refine v_aload_n (pc := 10) K dX12_ring_10 0 rfl ?_
    refine v_iload_n (pc := 11) K dX12_ring_11 1 rfl ?_
    obtain ⟨r5, M6, hc4, hF⟩ := q_bE hF
    refine v_callV (pc := 12) (ci := 11) (As := [.int x1]) (rest := []) (st' := [.int r5]) (r := some (.int r5)) (M1 := M6) K (kX12_waitsFor l K.2.2.2.2.2.2.1 hy hc4) (jg_V jl_X12_438 jw_i_X12_waitsFor jw_s_X12_waitsFor jw_n_X12 jw_c_X12_waitsFor) rfl rfl rfl jd_X12_waitsFor ⟨Nat.le_of_ble_eq_true rfl, Nat.le_of_ble_eq_true rfl⟩ rfl rfl (Nat.le_of_ble_eq_true rfl) (by decide) (okc_1 hy) rfl dX12_ring_12 rfl ?_
    refine v_istore_n (pc := 15) (lv' := [(2, .int r5), (0, .ref (ly_o y 1000)), (1, .int x1)]) K dX12_ring_15 2 rfl (by decide) rfl ?_
    refine v_iconst (pc := 16) (v := 0) K dX12_ring_16 rfl ?_
    refine v_istore_n (pc := 17) (lv' := [(3, .int (0 : Int32)), (2, .int r5), (0, .ref (ly_o y 1000)), (1, .int x1)]) K dX12_ring_17 3 rfl (by decide) rfl ?_
    refine v_sub [2, 3, 1, 0] rfl ?_
    exact bX12_ring_18 l K hy hQ q_F hF
  · refine v_iconst (pc := 8) (v := -1) K dX12_ring_8 rfl ?_
    have hz := (Option.some.inj hF).symm
    subst hz
    exact v_iret (pc := 9) K hQ dX12_ring_9
set_option maxRecDepth 100000 in
set_option maxHeartbeats 4000000 in
theorem kX12_ring (l : Launch) {y : Ly} (hJ : ly_J y) (hy : y.2.2.2.2 = 1) {M M1 : QM} {r : Int32} {x1 : Int32} (hF : fX12_ring M x1 = some (r, M1)) : Met l yX12_ring wqX12_ring rmX12_ring (q_P y [.ref (ly_o y 1000), .int x1] M) (q_E y (some (.int r)) M1) 0 0 (ly_A y) :=
  q_met (by decide) rfl hJ rfl rfl rfl (fun x K hQ => bX12_ring_0 l K hy (z := (r, M1)) hQ  hF)
-- ===== X12_first (I)I
theorem jd_X12_first : yX12_first.cls = RX12 ∧ yX12_first.cls ≠ "java/lang/invoke/MethodHandle" ∧ yX12_first.cls ≠ "java/lang/invoke/VarHandle" ∧ (parseMethodDescriptor yX12_first.desc).map (fun d => d.parameters.length) = some 1 := by decide +kernel
abbrev wqX12_first : List Cond := .code yX12_first cX12_first 3 (some .int) :: wsL_law
abbrev rmX12_first : Room := { frames := 2, cells := 0, slots := 0, locals := 47 }
def fX12_first (M : QM) (x1 : Int32) : Option (Int32 × QM) := (q_b (fX12_isPerson M x1) fun r2 M3 => if r2 ≠ (0 : Int32) then (q_b (fX12_firstOf M3 x1) fun r5 M6 => if (0 : Int32) ≤ r5 then some (r5, M6) else some ((-2 : Int32), M6)) else some ((-1 : Int32), M3))
set_option maxRecDepth 100000 in
set_option maxHeartbeats 4000000 in
theorem bX12_first_0 {x : Cx} {y : Ly} (l : Launch) (K : VK x l rmX12_first y 3 cX12_first RX12 wqX12_first) (hy : y.2.2.2.2 = 1) {z : Int32 × QM} (hQ : VQ x y (some (.int z.1)) z.2 (some .int)) {M : QM} {x1 : Int32} (hF : fX12_first M x1 = some z) : V x y 3 M 0 [(0, .ref (ly_o y 1000)), (1, .int x1)] [] := by
  unfold fX12_first at hF
  refine v_aload_n (pc := 0) K dX12_first_0 0 rfl ?_
  refine v_iload_n (pc := 1) K dX12_first_1 1 rfl ?_
  obtain ⟨r2, M3, hc1, hF⟩ := q_bE hF
  refine v_callV (pc := 2) (ci := 11) (As := [.int x1]) (rest := []) (st' := [.int r2]) (r := some (.int r2)) (M1 := M3) K (kX12_isPerson l K.2.2.2.2.2.2.1 hy hc1) (jg_V jl_X12_103 jw_i_X12_isPerson jw_s_X12_isPerson jw_n_X12 jw_c_X12_isPerson) rfl rfl rfl jd_X12_isPerson ⟨Nat.le_of_ble_eq_true rfl, Nat.le_of_ble_eq_true rfl⟩ rfl rfl (Nat.le_of_ble_eq_true rfl) (by decide) (okc_1 hy) rfl dX12_first_2 rfl ?_
  refine v_if_ne (pc := 5) (tgt := 10) K dX12_first_5 (by decide) hF (fun c8 hF => ?_) (fun c8 hF => ?_)
  · refine v_aload_n (pc := 10) K dX12_first_10 0 rfl ?_
    refine v_iload_n (pc := 11) K dX12_first_11 1 rfl ?_
    obtain ⟨r5, M6, hc4, hF⟩ := q_bE hF
    refine v_callV (pc := 12) (ci := 11) (As := [.int x1]) (rest := []) (st' := [.int r5]) (r := some (.int r5)) (M1 := M6) K (kX12_firstOf l K.2.2.2.2.2.2.1 hy hc4) (jg_V jl_X12_435 jw_i_X12_firstOf jw_s_X12_firstOf jw_n_X12 jw_c_X12_firstOf) rfl rfl rfl jd_X12_firstOf ⟨Nat.le_of_ble_eq_true rfl, Nat.le_of_ble_eq_true rfl⟩ rfl rfl (Nat.le_of_ble_eq_true rfl) (by decide) (okc_1 hy) rfl dX12_first_12 rfl ?_
    refine v_istore_n (pc := 15) (lv' := [(2, .int r5), (0, .ref (ly_o y 1000)), (1, .int x1)]) K dX12_first_15 2 rfl (by decide) rfl ?_
    refine v_iload_n (pc := 16) K dX12_first_16 0 rfl ?_
    refine v_if_ge (pc := 17) (tgt := 25) K dX12_first_17 (by decide) hF (fun c7 hF => ?_) (fun c7 hF => ?_)
    · refine v_iload_n (pc := 25) K dX12_first_25 0 rfl ?_
      have hz := (Option.some.inj hF).symm
      subst hz
      exact v_iret (pc := 26) K hQ dX12_first_26
    · refine v_bipush (pc := 20) (v := -2) K dX12_first_20 rfl ?_
      refine v_goto (pc := 22) (tgt := 26) K dX12_first_22 (by decide) ?_
      have hz := (Option.some.inj hF).symm
      subst hz
      exact v_iret (pc := 26) K hQ dX12_first_26
  · refine v_iconst (pc := 8) (v := -1) K dX12_first_8 rfl ?_
    have hz := (Option.some.inj hF).symm
    subst hz
    exact v_iret (pc := 9) K hQ dX12_first_9
set_option maxRecDepth 100000 in
set_option maxHeartbeats 4000000 in
theorem kX12_first (l : Launch) {y : Ly} (hJ : ly_J y) (hy : y.2.2.2.2 = 1) {M M1 : QM} {r : Int32} {x1 : Int32} (hF : fX12_first M x1 = some (r, M1)) : Met l yX12_first wqX12_first rmX12_first (q_P y [.ref (ly_o y 1000), .int x1] M) (q_E y (some (.int r)) M1) 0 0 (ly_A y) :=
  q_met (by decide) rfl hJ rfl rfl rfl (fun x K hQ => bX12_first_0 l K hy (z := (r, M1)) hQ  hF)
-- ===== X12_endsInField (IIIII)Z
theorem jd_X12_endsInField : yX12_endsInField.cls = RX12 ∧ yX12_endsInField.cls ≠ "java/lang/invoke/MethodHandle" ∧ yX12_endsInField.cls ≠ "java/lang/invoke/VarHandle" ∧ (parseMethodDescriptor yX12_endsInField.desc).map (fun d => d.parameters.length) = some 5 := by decide +kernel
abbrev wqX12_endsInField : List Cond := .code yX12_endsInField cX12_endsInField 6 (some .boolean) :: wsL_law
abbrev rmX12_endsInField : Room := { frames := 8, cells := 0, slots := 0, locals := 196 }
def fX12_endsInField (M : QM) (x1 : Int32) (x2 : Int32) (x3 : Int32) (x4 : Int32) (x5 : Int32) : Option (Int32 × QM) := (q_bv (fX12_meets M x2 x3 x4 x1 x1) fun M3 => (q_bv (fX12_slightsFirst M3 x5 (1 : Int32)) fun M6 => (q_b (fX12_plays M6) fun r8 M9 => if (r8 / (4 : Int32)) ≠ (2 : Int32) then some ((0 : Int32), M9) else some ((1 : Int32), M9))))
set_option maxRecDepth 100000 in
set_option maxHeartbeats 4000000 in
theorem bX12_endsInField_0 {x : Cx} {y : Ly} (l : Launch) (K : VK x l rmX12_endsInField y 6 cX12_endsInField RX12 wqX12_endsInField) (hy : y.2.2.2.2 = 1) {z : Int32 × QM} (hQ : VQ x y (some (.int z.1)) z.2 (some .boolean)) {M : QM} {x1 : Int32} {x2 : Int32} {x3 : Int32} {x4 : Int32} {x5 : Int32} (hF : fX12_endsInField M x1 x2 x3 x4 x5 = some z) : V x y 6 M 0 [(0, .ref (ly_o y 1000)), (1, .int x1), (2, .int x2), (3, .int x3), (4, .int x4), (5, .int x5)] [] := by
  unfold fX12_endsInField at hF
  refine v_aload_n (pc := 0) K dX12_endsInField_0 0 rfl ?_
  refine v_iload_n (pc := 1) K dX12_endsInField_1 2 rfl ?_
  refine v_iload_n (pc := 2) K dX12_endsInField_2 3 rfl ?_
  refine v_iload (pc := 3) K dX12_endsInField_3 4 rfl ?_
  refine v_iload_n (pc := 5) K dX12_endsInField_5 1 rfl ?_
  refine v_iload_n (pc := 6) K dX12_endsInField_6 1 rfl ?_
  obtain ⟨M3, hc1, hF⟩ := q_bvE hF
  refine v_callV (pc := 7) (ci := 11) (As := [.int x2, .int x3, .int x4, .int x1, .int x1]) (rest := []) (st' := []) (r := none) (M1 := M3) K (kX12_meets l K.2.2.2.2.2.2.1 hy hc1) (jg_V jl_X12_392 jw_i_X12_meets jw_s_X12_meets jw_n_X12 jw_c_X12_meets) rfl rfl rfl jd_X12_meets ⟨Nat.le_of_ble_eq_true rfl, Nat.le_of_ble_eq_true rfl⟩ rfl rfl (Nat.le_of_ble_eq_true rfl) (by decide) (okc_1 hy) rfl dX12_endsInField_7 rfl ?_
  refine v_aload_n (pc := 10) K dX12_endsInField_10 0 rfl ?_
  refine v_iload (pc := 11) K dX12_endsInField_11 5 rfl ?_
  refine v_iconst (pc := 13) (v := 1) K dX12_endsInField_13 rfl ?_
  obtain ⟨M6, hc4, hF⟩ := q_bvE hF
  refine v_callV (pc := 14) (ci := 11) (As := [.int x5, .int (1 : Int32)]) (rest := []) (st' := []) (r := none) (M1 := M6) K (kX12_slightsFirst l K.2.2.2.2.2.2.1 hy hc4) (jg_V jl_X12_402 jw_i_X12_slightsFirst jw_s_X12_slightsFirst jw_n_X12 jw_c_X12_slightsFirst) rfl rfl rfl jd_X12_slightsFirst ⟨Nat.le_of_ble_eq_true rfl, Nat.le_of_ble_eq_true rfl⟩ rfl rfl (Nat.le_of_ble_eq_true rfl) (by decide) (okc_1 hy) rfl dX12_endsInField_14 rfl ?_
  refine v_aload_n (pc := 17) K dX12_endsInField_17 0 rfl ?_
  obtain ⟨r8, M9, hc7, hF⟩ := q_bE hF
  refine v_callV (pc := 18) (ci := 11) (As := []) (rest := []) (st' := [.int r8]) (r := some (.int r8)) (M1 := M9) K (kX12_plays l K.2.2.2.2.2.2.1 hy hc7) (jg_V jl_X12_426 jw_i_X12_plays jw_s_X12_plays jw_n_X12 jw_c_X12_plays) rfl rfl rfl jd_X12_plays ⟨Nat.le_of_ble_eq_true rfl, Nat.le_of_ble_eq_true rfl⟩ rfl rfl (Nat.le_of_ble_eq_true rfl) (by decide) (okc_1 hy) rfl dX12_endsInField_18 rfl ?_
  refine v_iconst (pc := 21) (v := 4) K dX12_endsInField_21 rfl ?_
  refine v_idiv (pc := 22) K dX12_endsInField_22 (by decide) ?_
  refine v_iconst (pc := 23) (v := 2) K dX12_endsInField_23 rfl ?_
  refine v_icmp_ne (pc := 24) (tgt := 31) K dX12_endsInField_24 (by decide) hF (fun c10 hF => ?_) (fun c10 hF => ?_)
  · refine v_iconst (pc := 31) (v := 0) K dX12_endsInField_31 rfl ?_
    have hz := (Option.some.inj hF).symm
    subst hz
    exact v_zret (pc := 32) K hQ rfl dX12_endsInField_32
  · refine v_iconst (pc := 27) (v := 1) K dX12_endsInField_27 rfl ?_
    refine v_goto (pc := 28) (tgt := 32) K dX12_endsInField_28 (by decide) ?_
    have hz := (Option.some.inj hF).symm
    subst hz
    exact v_zret (pc := 32) K hQ rfl dX12_endsInField_32
set_option maxRecDepth 100000 in
set_option maxHeartbeats 4000000 in
theorem kX12_endsInField (l : Launch) {y : Ly} (hJ : ly_J y) (hy : y.2.2.2.2 = 1) {M M1 : QM} {r : Int32} {x1 : Int32} {x2 : Int32} {x3 : Int32} {x4 : Int32} {x5 : Int32} (hF : fX12_endsInField M x1 x2 x3 x4 x5 = some (r, M1)) : Met l yX12_endsInField wqX12_endsInField rmX12_endsInField (q_P y [.ref (ly_o y 1000), .int x1, .int x2, .int x3, .int x4, .int x5] M) (q_E y (some (.int r)) M1) 0 0 (ly_A y) :=
  q_met (by decide) rfl hJ rfl rfl rfl (fun x K hQ => bX12_endsInField_0 l K hy (z := (r, M1)) hQ  hF)
-- ===== X12_harsh (IIII)I
theorem jd_X12_harsh : yX12_harsh.cls = RX12 ∧ yX12_harsh.cls ≠ "java/lang/invoke/MethodHandle" ∧ yX12_harsh.cls ≠ "java/lang/invoke/VarHandle" ∧ (parseMethodDescriptor yX12_harsh.desc).map (fun d => d.parameters.length) = some 4 := by decide +kernel
abbrev wqX12_harsh : List Cond := .code yX12_harsh cX12_harsh 7 (some .int) :: wsL_law
abbrev rmX12_harsh : Room := { frames := 9, cells := 0, slots := 0, locals := 221 }
def fX12_harsh_b68 (k38 : QM → Int32 → Int32 → Int32 → Int32 → Int32 → Int32 → Option (Int32 × QM)) (M : QM) (x1 : Int32) (x2 : Int32) (x3 : Int32) (x4 : Int32) (x6 : Int32) (s0 : Int32) (s1 : Int32) : Option (Int32 × QM) := (k38 M x1 x2 x3 x4 (s1 ||| s0) (x6 + (1 : Int32)))
set_option maxRecDepth 100000 in
set_option maxHeartbeats 4000000 in
theorem bX12_harsh_68 {x : Cx} {y : Ly} (l : Launch) (K : VK x l rmX12_harsh y 7 cX12_harsh RX12 wqX12_harsh) (hy : y.2.2.2.2 = 1) {z : Int32 × QM} (hQ : VQ x y (some (.int z.1)) z.2 (some .int)) {k38 : QM → Int32 → Int32 → Int32 → Int32 → Int32 → Int32 → Option (Int32 × QM)} (hk38 : ∀ {M : QM} {x1 : Int32} {x2 : Int32} {x3 : Int32} {x4 : Int32} {x5 : Int32} {x6 : Int32}, k38 M x1 x2 x3 x4 x5 x6 = some z → V x y 7 M 38 [(0, .ref (ly_o y 1000)), (1, .int x1), (2, .int x2), (3, .int x3), (4, .int x4), (5, .int x5), (6, .int x6)] []) {M : QM} {x1 : Int32} {x2 : Int32} {x3 : Int32} {x4 : Int32} {x6 : Int32} {s0 : Int32} {s1 : Int32} (hF : fX12_harsh_b68 k38 M x1 x2 x3 x4 x6 s0 s1 = some z) : V x y 7 M 68 [(0, .ref (ly_o y 1000)), (1, .int x1), (2, .int x2), (3, .int x3), (4, .int x4), (6, .int x6)] [.int s0, .int s1] := by
  unfold fX12_harsh_b68 at hF
  refine v_ior (pc := 68) K dX12_harsh_68 ?_
  refine v_istore (pc := 69) (lv' := [(5, .int (s1 ||| s0)), (0, .ref (ly_o y 1000)), (1, .int x1), (2, .int x2), (3, .int x3), (4, .int x4), (6, .int x6)]) K 5 dX12_harsh_69 (by decide) rfl ?_
  refine v_iinc (pc := 71) (v1 := x6 + (1 : Int32)) (lv' := [(6, .int (x6 + (1 : Int32))), (5, .int (s1 ||| s0)), (0, .ref (ly_o y 1000)), (1, .int x1), (2, .int x2), (3, .int x3), (4, .int x4)]) K dX12_harsh_71 6 rfl rfl (by decide) rfl ?_
  refine v_goto (pc := 74) (tgt := 38) K dX12_harsh_74 (by decide) ?_
  refine v_sub [2, 3, 4, 5, 6, 1, 0] rfl ?_
  exact hk38 hF
def fX12_harsh_b38 : Nat → QM → Int32 → Int32 → Int32 → Int32 → Int32 → Int32 → Option (Int32 × QM)
  | 0, _, _, _, _, _, _, _ => none
  | q + 1, M, x1, x2, x3, x4, x5, x6 => if (4 : Int32) ≤ x6 then some (x5, M) else (q_b (fX12_endsInField M x1 x2 x3 x4 x6) fun r14 M15 => if r14 = (0 : Int32) then (fX12_harsh_b68 (fun M x1 x2 x3 x4 x5 x6 => fX12_harsh_b38 q M x1 x2 x3 x4 x5 x6) M15 x1 x2 x3 x4 x6 (0 : Int32) x5) else (fX12_harsh_b68 (fun M x1 x2 x3 x4 x5 x6 => fX12_harsh_b38 q M x1 x2 x3 x4 x5 x6) M15 x1 x2 x3 x4 x6 ((1 : Int32) <<< (x6 &&& (31 : Int32))) x5))
set_option maxRecDepth 100000 in
set_option maxHeartbeats 4000000 in
theorem bX12_harsh_38 {x : Cx} {y : Ly} (l : Launch) (K : VK x l rmX12_harsh y 7 cX12_harsh RX12 wqX12_harsh) (hy : y.2.2.2.2 = 1) {z : Int32 × QM} (hQ : VQ x y (some (.int z.1)) z.2 (some .int)) : ∀ (q : Nat) {M : QM} {x1 : Int32} {x2 : Int32} {x3 : Int32} {x4 : Int32} {x5 : Int32} {x6 : Int32},  fX12_harsh_b38 q M x1 x2 x3 x4 x5 x6 = some z → V x y 7 M 38 [(0, .ref (ly_o y 1000)), (1, .int x1), (2, .int x2), (3, .int x3), (4, .int x4), (5, .int x5), (6, .int x6)] [] := by
  intro q
  induction q with
  | zero =>
    intro M x1 x2 x3 x4 x5 x6  hF
    rw [fX12_harsh_b38] at hF
    cases hF
  | succ q ih =>
    intro M x1 x2 x3 x4 x5 x6  hF
    rw [fX12_harsh_b38] at hF
    refine v_iload (pc := 38) K dX12_harsh_38 6 rfl ?_
    refine v_iconst (pc := 40) (v := 4) K dX12_harsh_40 rfl ?_
    refine v_icmp_ge (pc := 41) (tgt := 77) K dX12_harsh_41 (by decide) hF (fun c17 hF => ?_) (fun c17 hF => ?_)
    · refine v_iload (pc := 77) K dX12_harsh_77 5 rfl ?_
      have hz := (Option.some.inj hF).symm
      subst hz
      exact v_iret (pc := 79) K hQ dX12_harsh_79
    · refine v_iload (pc := 44) K dX12_harsh_44 5 rfl ?_
      refine v_aload_n (pc := 46) K dX12_harsh_46 0 rfl ?_
      refine v_iload_n (pc := 47) K dX12_harsh_47 1 rfl ?_
      refine v_iload_n (pc := 48) K dX12_harsh_48 2 rfl ?_
      refine v_iload_n (pc := 49) K dX12_harsh_49 3 rfl ?_
      refine v_iload (pc := 50) K dX12_harsh_50 4 rfl ?_
      refine v_iload (pc := 52) K dX12_harsh_52 6 rfl ?_
      obtain ⟨r14, M15, hc13, hF⟩ := q_bE hF
      refine v_callV (pc := 54) (ci := 11) (As := [.int x1, .int x2, .int x3, .int x4, .int x6]) (rest := [.int x5]) (st' := [.int r14, .int x5]) (r := some (.int r14)) (M1 := M15) K (kX12_endsInField l K.2.2.2.2.2.2.1 hy hc13) (jg_V jl_X12_441 jw_i_X12_endsInField jw_s_X12_endsInField jw_n_X12 jw_c_X12_endsInField) rfl rfl rfl jd_X12_endsInField ⟨Nat.le_of_ble_eq_true rfl, Nat.le_of_ble_eq_true rfl⟩ rfl rfl (Nat.le_of_ble_eq_true rfl) (by decide) (okc_1 hy) rfl dX12_harsh_54 rfl ?_
      refine v_if_eq (pc := 57) (tgt := 67) K dX12_harsh_57 (by decide) hF (fun c16 hF => ?_) (fun c16 hF => ?_)
      · refine v_iconst (pc := 67) (v := 0) K dX12_harsh_67 rfl ?_
        refine v_sub [0, 1, 2, 3, 4, 6] rfl ?_
        exact bX12_harsh_68 l K hy hQ ih hF
      · refine v_iconst (pc := 60) (v := 1) K dX12_harsh_60 rfl ?_
        refine v_iload (pc := 61) K dX12_harsh_61 6 rfl ?_
        refine v_ishl (pc := 63) K dX12_harsh_63 ?_
        refine v_goto (pc := 64) (tgt := 68) K dX12_harsh_64 (by decide) ?_
        refine v_sub [0, 1, 2, 3, 4, 6] rfl ?_
        exact bX12_harsh_68 l K hy hQ ih hF
def fX12_harsh (M : QM) (x1 : Int32) (x2 : Int32) (x3 : Int32) (x4 : Int32) : Option (Int32 × QM) := (q_b (fX12_isCode M x1) fun r2 M3 => if r2 = (0 : Int32) then some ((-1 : Int32), M3) else (q_b (fX12_areTwo M3 x2 x3) fun r5 M6 => if r5 = (0 : Int32) then some ((-1 : Int32), M6) else (q_b (fX12_in M6 (Int32.toInt64 x4) (0 : Int64) (9 : Int64)) fun r8 M9 => if r8 ≠ (0 : Int32) then (fX12_harsh_b38 q_F M9 x1 x2 x3 x4 (0 : Int32) (0 : Int32)) else some ((-1 : Int32), M9))))
set_option maxRecDepth 100000 in
set_option maxHeartbeats 4000000 in
theorem bX12_harsh_0 {x : Cx} {y : Ly} (l : Launch) (K : VK x l rmX12_harsh y 7 cX12_harsh RX12 wqX12_harsh) (hy : y.2.2.2.2 = 1) {z : Int32 × QM} (hQ : VQ x y (some (.int z.1)) z.2 (some .int)) {M : QM} {x1 : Int32} {x2 : Int32} {x3 : Int32} {x4 : Int32} (hF : fX12_harsh M x1 x2 x3 x4 = some z) : V x y 7 M 0 [(0, .ref (ly_o y 1000)), (1, .int x1), (2, .int x2), (3, .int x3), (4, .int x4)] [] := by
  unfold fX12_harsh at hF
  refine v_aload_n (pc := 0) K dX12_harsh_0 0 rfl ?_
  refine v_iload_n (pc := 1) K dX12_harsh_1 1 rfl ?_
  obtain ⟨r2, M3, hc1, hF⟩ := q_bE hF
  refine v_callV (pc := 2) (ci := 11) (As := [.int x1]) (rest := []) (st' := [.int r2]) (r := some (.int r2)) (M1 := M3) K (kX12_isCode l K.2.2.2.2.2.2.1 hy hc1) (jg_V jl_X12_286 jw_i_X12_isCode jw_s_X12_isCode jw_n_X12 jw_c_X12_isCode) rfl rfl rfl jd_X12_isCode ⟨Nat.le_of_ble_eq_true rfl, Nat.le_of_ble_eq_true rfl⟩ rfl rfl (Nat.le_of_ble_eq_true rfl) (by decide) (okc_1 hy) rfl dX12_harsh_2 rfl ?_
  refine v_if_eq (pc := 5) (tgt := 30) K dX12_harsh_5 (by decide) hF (fun c12 hF => ?_) (fun c12 hF => ?_)
  · refine v_iconst (pc := 30) (v := -1) K dX12_harsh_30 rfl ?_
    have hz := (Option.some.inj hF).symm
    subst hz
    exact v_iret (pc := 31) K hQ dX12_harsh_31
  · refine v_aload_n (pc := 8) K dX12_harsh_8 0 rfl ?_
    refine v_iload_n (pc := 9) K dX12_harsh_9 2 rfl ?_
    refine v_iload_n (pc := 10) K dX12_harsh_10 3 rfl ?_
    obtain ⟨r5, M6, hc4, hF⟩ := q_bE hF
    refine v_callV (pc := 11) (ci := 11) (As := [.int x2, .int x3]) (rest := []) (st' := [.int r5]) (r := some (.int r5)) (M1 := M6) K (kX12_areTwo l K.2.2.2.2.2.2.1 hy hc4) (jg_V jl_X12_107 jw_i_X12_areTwo jw_s_X12_areTwo jw_n_X12 jw_c_X12_areTwo) rfl rfl rfl jd_X12_areTwo ⟨Nat.le_of_ble_eq_true rfl, Nat.le_of_ble_eq_true rfl⟩ rfl rfl (Nat.le_of_ble_eq_true rfl) (by decide) (okc_1 hy) rfl dX12_harsh_11 rfl ?_
    refine v_if_eq (pc := 14) (tgt := 30) K dX12_harsh_14 (by decide) hF (fun c11 hF => ?_) (fun c11 hF => ?_)
    · refine v_iconst (pc := 30) (v := -1) K dX12_harsh_30 rfl ?_
      have hz := (Option.some.inj hF).symm
      subst hz
      exact v_iret (pc := 31) K hQ dX12_harsh_31
    · refine v_iload (pc := 17) K dX12_harsh_17 4 rfl ?_
      refine v_i2l (pc := 19) K dX12_harsh_19 ?_
      refine v_lconst (pc := 20) (v := 0) K dX12_harsh_20 rfl ?_
      refine v_ldc2 (pc := 21) (v := 9) K dX12_harsh_21 (List.mem_cons_of_mem _ jl_X12_101) ?_
      obtain ⟨r8, M9, hc7, hF⟩ := q_bE hF
      refine v_callS (pc := 24) (As := [.long (Int32.toInt64 x4), .long (0 : Int64), .long (9 : Int64)]) (rest := []) (st' := [.int r8]) (r := some (.int r8)) (M1 := M9) K (kX12_in l K.2.2.2.2.2.2.1 hy hc7) (jg_S jl_X12_97 jw_t_X12_in jw_n_X12 jw_c_X12_in) rfl rfl rfl jd_X12_in ⟨Nat.le_of_ble_eq_true rfl, Nat.le_of_ble_eq_true rfl⟩ rfl rfl (Nat.le_of_ble_eq_true rfl) dX12_harsh_24 rfl ?_
      refine v_if_ne (pc := 27) (tgt := 32) K dX12_harsh_27 (by decide) hF (fun c10 hF => ?_) (fun c10 hF => ?_)
      · refine v_iconst (pc := 32) (v := 0) K dX12_harsh_32 rfl ?_
        refine v_istore (pc := 33) (lv' := [(5, .int (0 : Int32)), (0, .ref (ly_o y 1000)), (1, .int x1), (2, .int x2), (3, .int x3), (4, .int x4)]) K 5 dX12_harsh_33 (by decide) rfl ?_
        refine v_iconst (pc := 35) (v := 0) K dX12_harsh_35 rfl ?_
        refine v_istore (pc := 36) (lv' := [(6, .int (0 : Int32)), (5, .int (0 : Int32)), (0, .ref (ly_o y 1000)), (1, .int x1), (2, .int x2), (3, .int x3), (4, .int x4)]) K 6 dX12_harsh_36 (by decide) rfl ?_
        refine v_sub [2, 3, 4, 5, 6, 1, 0] rfl ?_
        exact bX12_harsh_38 l K hy hQ q_F hF
      · refine v_iconst (pc := 30) (v := -1) K dX12_harsh_30 rfl ?_
        have hz := (Option.some.inj hF).symm
        subst hz
        exact v_iret (pc := 31) K hQ dX12_harsh_31
set_option maxRecDepth 100000 in
set_option maxHeartbeats 4000000 in
theorem kX12_harsh (l : Launch) {y : Ly} (hJ : ly_J y) (hy : y.2.2.2.2 = 1) {M M1 : QM} {r : Int32} {x1 : Int32} {x2 : Int32} {x3 : Int32} {x4 : Int32} (hF : fX12_harsh M x1 x2 x3 x4 = some (r, M1)) : Met l yX12_harsh wqX12_harsh rmX12_harsh (q_P y [.ref (ly_o y 1000), .int x1, .int x2, .int x3, .int x4] M) (q_E y (some (.int r)) M1) 0 0 (ly_A y) :=
  q_met (by decide) rfl hJ rfl rfl rfl (fun x K hQ => bX12_harsh_0 l K hy (z := (r, M1)) hQ  hF)
-- ===== X12_bits (I)I
theorem jd_X12_bits : yX12_bits.cls ≠ "java/lang/invoke/MethodHandle" ∧ yX12_bits.cls ≠ "java/lang/invoke/VarHandle" ∧ (parseMethodDescriptor yX12_bits.desc).map (fun d => d.parameters.length) = some 1 := by decide +kernel
abbrev wqX12_bits : List Cond := .code yX12_bits cX12_bits 3 (some .int) :: wsL_law
abbrev rmX12_bits : Room := { frames := 0, cells := 0, slots := 0, locals := 0 }
def fX12_bits_b4 : Nat → QM → Int32 → Int32 → Option (Int32 × QM)
  | 0, _, _, _ => none
  | q + 1, M, x1, x2 => if x2 = (0 : Int32) then some (x1, M) else (fX12_bits_b4 q M (x1 + (1 : Int32)) (x2 &&& (x2 - (1 : Int32))))
set_option maxRecDepth 100000 in
set_option maxHeartbeats 4000000 in
theorem bX12_bits_4 {x : Cx} {y : Ly} (l : Launch) (K : VK x l rmX12_bits y 3 cX12_bits RX12 wqX12_bits) (hy : y.2.2.2.2 = 1) {z : Int32 × QM} (hQ : VQ x y (some (.int z.1)) z.2 (some .int)) : ∀ (q : Nat) {M : QM} {x1 : Int32} {x2 : Int32},  fX12_bits_b4 q M x1 x2 = some z → V x y 3 M 4 [(1, .int x1), (2, .int x2)] [] := by
  intro q
  induction q with
  | zero =>
    intro M x1 x2  hF
    rw [fX12_bits_b4] at hF
    cases hF
  | succ q ih =>
    intro M x1 x2  hF
    rw [fX12_bits_b4] at hF
    refine v_iload_n (pc := 4) K dX12_bits_4 1 rfl ?_
    refine v_if_eq (pc := 5) (tgt := 20) K dX12_bits_5 (by decide) hF (fun c1 hF => ?_) (fun c1 hF => ?_)
    · refine v_iload_n (pc := 20) K dX12_bits_20 0 rfl ?_
      have hz := (Option.some.inj hF).symm
      subst hz
      exact v_iret (pc := 21) K hQ dX12_bits_21
    · refine v_iinc (pc := 8) (v1 := x1 + (1 : Int32)) (lv' := [(1, .int (x1 + (1 : Int32))), (2, .int x2)]) K dX12_bits_8 0 rfl rfl (by decide) rfl ?_
      refine v_iload_n (pc := 11) K dX12_bits_11 1 rfl ?_
      refine v_iload_n (pc := 12) K dX12_bits_12 1 rfl ?_
      refine v_iconst (pc := 13) (v := 1) K dX12_bits_13 rfl ?_
      refine v_isub (pc := 14) K dX12_bits_14 ?_
      refine v_iand (pc := 15) K dX12_bits_15 ?_
      refine v_istore_n (pc := 16) (lv' := [(2, .int (x2 &&& (x2 - (1 : Int32)))), (1, .int (x1 + (1 : Int32)))]) K dX12_bits_16 2 rfl (by decide) rfl ?_
      refine v_goto (pc := 17) (tgt := 4) K dX12_bits_17 (by decide) ?_
      refine v_sub [1, 0] rfl ?_
      exact ih hF
def fX12_bits (M : QM) (x0 : Int32) : Option (Int32 × QM) := (fX12_bits_b4 q_F M (0 : Int32) x0)
set_option maxRecDepth 100000 in
set_option maxHeartbeats 4000000 in
theorem bX12_bits_0 {x : Cx} {y : Ly} (l : Launch) (K : VK x l rmX12_bits y 3 cX12_bits RX12 wqX12_bits) (hy : y.2.2.2.2 = 1) {z : Int32 × QM} (hQ : VQ x y (some (.int z.1)) z.2 (some .int)) {M : QM} {x0 : Int32} (hF : fX12_bits M x0 = some z) : V x y 3 M 0 [(0, .int x0)] [] := by
  unfold fX12_bits at hF
  refine v_iconst (pc := 0) (v := 0) K dX12_bits_0 rfl ?_
  refine v_istore_n (pc := 1) (lv' := [(1, .int (0 : Int32)), (0, .int x0)]) K dX12_bits_1 1 rfl (by decide) rfl ?_
  refine v_iload_n (pc := 2) K dX12_bits_2 1 rfl ?_
  refine v_istore_n (pc := 3) (lv' := [(2, .int x0), (1, .int (0 : Int32)), (0, .int x0)]) K dX12_bits_3 2 rfl (by decide) rfl ?_
  refine v_sub [1, 0] rfl ?_
  exact bX12_bits_4 l K hy hQ q_F hF
set_option maxRecDepth 100000 in
set_option maxHeartbeats 4000000 in
theorem kX12_bits (l : Launch) {y : Ly} (hJ : ly_J y) (hy : y.2.2.2.2 = 1) {M M1 : QM} {r : Int32} {x0 : Int32} (hF : fX12_bits M x0 = some (r, M1)) : Met l yX12_bits wqX12_bits rmX12_bits (q_P y [.int x0] M) (q_E y (some (.int r)) M1) 0 0 (ly_A y) :=
  q_met (by decide) rfl hJ rfl rfl rfl (fun x K hQ => bX12_bits_0 l K hy (z := (r, M1)) hQ  hF)
-- ===== X12_mend (IIIII)I
theorem jd_X12_mend : yX12_mend.cls = RX12 ∧ yX12_mend.cls ≠ "java/lang/invoke/MethodHandle" ∧ yX12_mend.cls ≠ "java/lang/invoke/VarHandle" ∧ (parseMethodDescriptor yX12_mend.desc).map (fun d => d.parameters.length) = some 5 := by decide +kernel
abbrev wqX12_mend : List Cond := .code yX12_mend cX12_mend 9 (some .int) :: wsL_law
abbrev rmX12_mend : Room := { frames := 9, cells := 0, slots := 0, locals := 221 }
def fX12_mend_b94 (k51 : QM → Int32 → Int32 → Int32 → Int32 → Int32 → Int32 → Int32 → Option (Int32 × QM)) (M : QM) (x1 : Int32) (x2 : Int32) (x3 : Int32) (x4 : Int32) (x5 : Int32) (x7 : Int32) (s0 : Int32) (s1 : Int32) : Option (Int32 × QM) := (k51 M x1 x2 x3 x4 x5 (s1 + s0) (x7 + (1 : Int32)))
set_option maxRecDepth 100000 in
set_option maxHeartbeats 4000000 in
theorem bX12_mend_94 {x : Cx} {y : Ly} (l : Launch) (K : VK x l rmX12_mend y 9 cX12_mend RX12 wqX12_mend) (hy : y.2.2.2.2 = 1) {z : Int32 × QM} (hQ : VQ x y (some (.int z.1)) z.2 (some .int)) {k51 : QM → Int32 → Int32 → Int32 → Int32 → Int32 → Int32 → Int32 → Option (Int32 × QM)} (hk51 : ∀ {M : QM} {x1 : Int32} {x2 : Int32} {x3 : Int32} {x4 : Int32} {x5 : Int32} {x6 : Int32} {x7 : Int32}, k51 M x1 x2 x3 x4 x5 x6 x7 = some z → V x y 9 M 51 [(0, .ref (ly_o y 1000)), (1, .int x1), (2, .int x2), (3, .int x3), (4, .int x4), (5, .int x5), (6, .int x6), (7, .int x7)] []) {M : QM} {x1 : Int32} {x2 : Int32} {x3 : Int32} {x4 : Int32} {x5 : Int32} {x7 : Int32} {s0 : Int32} {s1 : Int32} (hF : fX12_mend_b94 k51 M x1 x2 x3 x4 x5 x7 s0 s1 = some z) : V x y 9 M 94 [(0, .ref (ly_o y 1000)), (1, .int x1), (2, .int x2), (3, .int x3), (4, .int x4), (5, .int x5), (7, .int x7)] [.int s0, .int s1] := by
  unfold fX12_mend_b94 at hF
  refine v_iadd (pc := 94) K dX12_mend_94 ?_
  refine v_istore (pc := 95) (lv' := [(6, .int (s1 + s0)), (0, .ref (ly_o y 1000)), (1, .int x1), (2, .int x2), (3, .int x3), (4, .int x4), (5, .int x5), (7, .int x7)]) K 6 dX12_mend_95 (by decide) rfl ?_
  refine v_iinc (pc := 97) (v1 := x7 + (1 : Int32)) (lv' := [(7, .int (x7 + (1 : Int32))), (6, .int (s1 + s0)), (0, .ref (ly_o y 1000)), (1, .int x1), (2, .int x2), (3, .int x3), (4, .int x4), (5, .int x5)]) K dX12_mend_97 7 rfl rfl (by decide) rfl ?_
  refine v_goto (pc := 100) (tgt := 51) K dX12_mend_100 (by decide) ?_
  refine v_sub [2, 3, 4, 5, 6, 7, 1, 0] rfl ?_
  exact hk51 hF
def fX12_mend_b93 (k51 : QM → Int32 → Int32 → Int32 → Int32 → Int32 → Int32 → Int32 → Option (Int32 × QM)) (M : QM) (x1 : Int32) (x2 : Int32) (x3 : Int32) (x4 : Int32) (x5 : Int32) (x7 : Int32) (s0 : Int32) : Option (Int32 × QM) := (fX12_mend_b94 k51 M x1 x2 x3 x4 x5 x7 (0 : Int32) s0)
set_option maxRecDepth 100000 in
set_option maxHeartbeats 4000000 in
theorem bX12_mend_93 {x : Cx} {y : Ly} (l : Launch) (K : VK x l rmX12_mend y 9 cX12_mend RX12 wqX12_mend) (hy : y.2.2.2.2 = 1) {z : Int32 × QM} (hQ : VQ x y (some (.int z.1)) z.2 (some .int)) {k51 : QM → Int32 → Int32 → Int32 → Int32 → Int32 → Int32 → Int32 → Option (Int32 × QM)} (hk51 : ∀ {M : QM} {x1 : Int32} {x2 : Int32} {x3 : Int32} {x4 : Int32} {x5 : Int32} {x6 : Int32} {x7 : Int32}, k51 M x1 x2 x3 x4 x5 x6 x7 = some z → V x y 9 M 51 [(0, .ref (ly_o y 1000)), (1, .int x1), (2, .int x2), (3, .int x3), (4, .int x4), (5, .int x5), (6, .int x6), (7, .int x7)] []) {M : QM} {x1 : Int32} {x2 : Int32} {x3 : Int32} {x4 : Int32} {x5 : Int32} {x7 : Int32} {s0 : Int32} (hF : fX12_mend_b93 k51 M x1 x2 x3 x4 x5 x7 s0 = some z) : V x y 9 M 93 [(0, .ref (ly_o y 1000)), (1, .int x1), (2, .int x2), (3, .int x3), (4, .int x4), (5, .int x5), (7, .int x7)] [.int s0] := by
  unfold fX12_mend_b93 at hF
  refine v_iconst (pc := 93) (v := 0) K dX12_mend_93 rfl ?_
  exact bX12_mend_94 l K hy hQ hk51 hF
def fX12_mend_b164 (k110 : QM → Int32 → Int32 → Int32 → Int32 → Int32 → Int32 → Int32 → Int32 → Option (Int32 × QM)) (M : QM) (x1 : Int32) (x2 : Int32) (x3 : Int32) (x4 : Int32) (x5 : Int32) (x6 : Int32) (x7 : Int32) (x8 : Int32) : Option (Int32 × QM) := (k110 M x1 x2 x3 x4 x5 x6 x7 (x8 + (1 : Int32)))
set_option maxRecDepth 100000 in
set_option maxHeartbeats 4000000 in
theorem bX12_mend_164 {x : Cx} {y : Ly} (l : Launch) (K : VK x l rmX12_mend y 9 cX12_mend RX12 wqX12_mend) (hy : y.2.2.2.2 = 1) {z : Int32 × QM} (hQ : VQ x y (some (.int z.1)) z.2 (some .int)) {k110 : QM → Int32 → Int32 → Int32 → Int32 → Int32 → Int32 → Int32 → Int32 → Option (Int32 × QM)} (hk110 : ∀ {M : QM} {x1 : Int32} {x2 : Int32} {x3 : Int32} {x4 : Int32} {x5 : Int32} {x6 : Int32} {x7 : Int32} {x8 : Int32}, k110 M x1 x2 x3 x4 x5 x6 x7 x8 = some z → V x y 9 M 110 [(0, .ref (ly_o y 1000)), (1, .int x1), (2, .int x2), (3, .int x3), (4, .int x4), (5, .int x5), (6, .int x6), (7, .int x7), (8, .int x8)] []) {M : QM} {x1 : Int32} {x2 : Int32} {x3 : Int32} {x4 : Int32} {x5 : Int32} {x6 : Int32} {x7 : Int32} {x8 : Int32} (hF : fX12_mend_b164 k110 M x1 x2 x3 x4 x5 x6 x7 x8 = some z) : V x y 9 M 164 [(0, .ref (ly_o y 1000)), (1, .int x1), (2, .int x2), (3, .int x3), (4, .int x4), (5, .int x5), (6, .int x6), (7, .int x7), (8, .int x8)] [] := by
  unfold fX12_mend_b164 at hF
  refine v_iinc (pc := 164) (v1 := x8 + (1 : Int32)) (lv' := [(8, .int (x8 + (1 : Int32))), (0, .ref (ly_o y 1000)), (1, .int x1), (2, .int x2), (3, .int x3), (4, .int x4), (5, .int x5), (6, .int x6), (7, .int x7)]) K dX12_mend_164 8 rfl rfl (by decide) rfl ?_
  refine v_goto (pc := 167) (tgt := 110) K dX12_mend_167 (by decide) ?_
  refine v_sub [1, 2, 3, 4, 5, 6, 7, 8, 0] rfl ?_
  exact hk110 hF
def fX12_mend_b140 (k110 : QM → Int32 → Int32 → Int32 → Int32 → Int32 → Int32 → Int32 → Int32 → Option (Int32 × QM)) (M : QM) (x1 : Int32) (x2 : Int32) (x3 : Int32) (x4 : Int32) (x5 : Int32) (x6 : Int32) (x7 : Int32) (x8 : Int32) : Option (Int32 × QM) := (q_t (p_i M 1000 25 x8) fun M31 => (q_b (fX12_endsInField M31 x1 x2 x3 x4 x5) fun r33 M34 => if r33 ≠ (0 : Int32) then (fX12_mend_b164 k110 M34 x1 x2 x3 x4 x5 x6 x7 x8) else (fX12_mend_b164 k110 M34 x1 x2 x3 x4 x5 x6 x8 x8)))
set_option maxRecDepth 100000 in
set_option maxHeartbeats 4000000 in
theorem bX12_mend_140 {x : Cx} {y : Ly} (l : Launch) (K : VK x l rmX12_mend y 9 cX12_mend RX12 wqX12_mend) (hy : y.2.2.2.2 = 1) {z : Int32 × QM} (hQ : VQ x y (some (.int z.1)) z.2 (some .int)) {k110 : QM → Int32 → Int32 → Int32 → Int32 → Int32 → Int32 → Int32 → Int32 → Option (Int32 × QM)} (hk110 : ∀ {M : QM} {x1 : Int32} {x2 : Int32} {x3 : Int32} {x4 : Int32} {x5 : Int32} {x6 : Int32} {x7 : Int32} {x8 : Int32}, k110 M x1 x2 x3 x4 x5 x6 x7 x8 = some z → V x y 9 M 110 [(0, .ref (ly_o y 1000)), (1, .int x1), (2, .int x2), (3, .int x3), (4, .int x4), (5, .int x5), (6, .int x6), (7, .int x7), (8, .int x8)] []) {M : QM} {x1 : Int32} {x2 : Int32} {x3 : Int32} {x4 : Int32} {x5 : Int32} {x6 : Int32} {x7 : Int32} {x8 : Int32} (hF : fX12_mend_b140 k110 M x1 x2 x3 x4 x5 x6 x7 x8 = some z) : V x y 9 M 140 [(0, .ref (ly_o y 1000)), (1, .int x1), (2, .int x2), (3, .int x3), (4, .int x4), (5, .int x5), (6, .int x6), (7, .int x7), (8, .int x8)] [] := by
  unfold fX12_mend_b140 at hF
  refine v_aload_n (pc := 140) K dX12_mend_140 0 rfl ?_
  refine v_iload (pc := 141) K dX12_mend_141 8 rfl ?_
  refine pX12_mended (pc := 143) K hy (by decide) jn_X12 (List.mem_cons_of_mem _ jl_X12_304) dX12_mend_143 ?_
  refine v_nmM hF (fun M31 hF => ?_)
  refine v_aload_n (pc := 146) K dX12_mend_146 0 rfl ?_
  refine v_iload_n (pc := 147) K dX12_mend_147 1 rfl ?_
  refine v_iload_n (pc := 148) K dX12_mend_148 2 rfl ?_
  refine v_iload_n (pc := 149) K dX12_mend_149 3 rfl ?_
  refine v_iload (pc := 150) K dX12_mend_150 4 rfl ?_
  refine v_iload (pc := 152) K dX12_mend_152 5 rfl ?_
  obtain ⟨r33, M34, hc32, hF⟩ := q_bE hF
  refine v_callV (pc := 154) (ci := 11) (As := [.int x1, .int x2, .int x3, .int x4, .int x5]) (rest := []) (st' := [.int r33]) (r := some (.int r33)) (M1 := M34) K (kX12_endsInField l K.2.2.2.2.2.2.1 hy hc32) (jg_V jl_X12_441 jw_i_X12_endsInField jw_s_X12_endsInField jw_n_X12 jw_c_X12_endsInField) rfl rfl rfl jd_X12_endsInField ⟨Nat.le_of_ble_eq_true rfl, Nat.le_of_ble_eq_true rfl⟩ rfl rfl (Nat.le_of_ble_eq_true rfl) (by decide) (okc_1 hy) rfl dX12_mend_154 rfl ?_
  refine v_if_ne (pc := 157) (tgt := 164) K dX12_mend_157 (by decide) hF (fun c35 hF => ?_) (fun c35 hF => ?_)
  · exact bX12_mend_164 l K hy hQ hk110 hF
  · refine v_iload (pc := 160) K dX12_mend_160 8 rfl ?_
    refine v_istore (pc := 162) (lv' := [(7, .int x8), (0, .ref (ly_o y 1000)), (1, .int x1), (2, .int x2), (3, .int x3), (4, .int x4), (5, .int x5), (6, .int x6), (8, .int x8)]) K 7 dX12_mend_162 (by decide) rfl ?_
    refine v_sub [1, 2, 3, 4, 5, 6, 7, 0, 8] rfl ?_
    exact bX12_mend_164 l K hy hQ hk110 hF
def fX12_mend_b170 (M : QM) (x7 : Int32) : Option (Int32 × QM) := (q_t (p_i M 1000 25 (0 : Int32)) fun M36 => some (x7, M36))
set_option maxRecDepth 100000 in
set_option maxHeartbeats 4000000 in
theorem bX12_mend_170 {x : Cx} {y : Ly} (l : Launch) (K : VK x l rmX12_mend y 9 cX12_mend RX12 wqX12_mend) (hy : y.2.2.2.2 = 1) {z : Int32 × QM} (hQ : VQ x y (some (.int z.1)) z.2 (some .int)) {M : QM} {x7 : Int32} (hF : fX12_mend_b170 M x7 = some z) : V x y 9 M 170 [(0, .ref (ly_o y 1000)), (7, .int x7)] [] := by
  unfold fX12_mend_b170 at hF
  refine v_aload_n (pc := 170) K dX12_mend_170 0 rfl ?_
  refine v_iconst (pc := 171) (v := 0) K dX12_mend_171 rfl ?_
  refine pX12_mended (pc := 172) K hy (by decide) jn_X12 (List.mem_cons_of_mem _ jl_X12_304) dX12_mend_172 ?_
  refine v_nmM hF (fun M36 hF => ?_)
  refine v_iload (pc := 175) K dX12_mend_175 1 rfl ?_
  have hz := (Option.some.inj hF).symm
  subst hz
  exact v_iret (pc := 177) K hQ dX12_mend_177
def fX12_mend_b110 : Nat → QM → Int32 → Int32 → Int32 → Int32 → Int32 → Int32 → Int32 → Int32 → Option (Int32 × QM)
  | 0, _, _, _, _, _, _, _, _, _ => none
  | q + 1, M, x1, x2, x3, x4, x5, x6, x7, x8 => if ((1 : Int32) <<< (x6 &&& (31 : Int32))) ≤ x8 then (fX12_mend_b170 M x7) else if x7 < (0 : Int32) then (fX12_mend_b140 (fun M x1 x2 x3 x4 x5 x6 x7 x8 => fX12_mend_b110 q M x1 x2 x3 x4 x5 x6 x7 x8) M x1 x2 x3 x4 x5 x6 x7 x8) else (q_b (fX12_bits M x8) fun r23 M24 => (q_b (fX12_bits M24 x7) fun r26 M27 => if r23 < r26 then (fX12_mend_b140 (fun M x1 x2 x3 x4 x5 x6 x7 x8 => fX12_mend_b110 q M x1 x2 x3 x4 x5 x6 x7 x8) M27 x1 x2 x3 x4 x5 x6 x7 x8) else (fX12_mend_b164 (fun M x1 x2 x3 x4 x5 x6 x7 x8 => fX12_mend_b110 q M x1 x2 x3 x4 x5 x6 x7 x8) M27 x1 x2 x3 x4 x5 x6 x7 x8)))
set_option maxRecDepth 100000 in
set_option maxHeartbeats 4000000 in
theorem bX12_mend_110 {x : Cx} {y : Ly} (l : Launch) (K : VK x l rmX12_mend y 9 cX12_mend RX12 wqX12_mend) (hy : y.2.2.2.2 = 1) {z : Int32 × QM} (hQ : VQ x y (some (.int z.1)) z.2 (some .int)) : ∀ (q : Nat) {M : QM} {x1 : Int32} {x2 : Int32} {x3 : Int32} {x4 : Int32} {x5 : Int32} {x6 : Int32} {x7 : Int32} {x8 : Int32},  fX12_mend_b110 q M x1 x2 x3 x4 x5 x6 x7 x8 = some z → V x y 9 M 110 [(0, .ref (ly_o y 1000)), (1, .int x1), (2, .int x2), (3, .int x3), (4, .int x4), (5, .int x5), (6, .int x6), (7, .int x7), (8, .int x8)] [] := by
  intro q
  induction q with
  | zero =>
    intro M x1 x2 x3 x4 x5 x6 x7 x8  hF
    rw [fX12_mend_b110] at hF
    cases hF
  | succ q ih =>
    intro M x1 x2 x3 x4 x5 x6 x7 x8  hF
    rw [fX12_mend_b110] at hF
    refine v_iload (pc := 110) K dX12_mend_110 8 rfl ?_
    refine v_iconst (pc := 112) (v := 1) K dX12_mend_112 rfl ?_
    refine v_iload (pc := 113) K dX12_mend_113 6 rfl ?_
    refine v_ishl (pc := 115) K dX12_mend_115 ?_
    refine v_icmp_ge (pc := 116) (tgt := 170) K dX12_mend_116 (by decide) hF (fun c30 hF => ?_) (fun c30 hF => ?_)
    · refine v_sub [0, 7] rfl ?_
      exact bX12_mend_170 l K hy hQ hF
    · refine v_iload (pc := 119) K dX12_mend_119 7 rfl ?_
      refine v_if_lt (pc := 121) (tgt := 140) K dX12_mend_121 (by decide) hF (fun c29 hF => ?_) (fun c29 hF => ?_)
      · exact bX12_mend_140 l K hy hQ ih hF
      · refine v_iload (pc := 124) K dX12_mend_124 8 rfl ?_
        obtain ⟨r23, M24, hc22, hF⟩ := q_bE hF
        refine v_callS (pc := 126) (As := [.int x8]) (rest := []) (st' := [.int r23]) (r := some (.int r23)) (M1 := M24) K (kX12_bits l K.2.2.2.2.2.2.1 hy hc22) (jg_S jl_X12_445 jw_t_X12_bits jw_n_X12 jw_c_X12_bits) rfl rfl rfl jd_X12_bits ⟨Nat.le_of_ble_eq_true rfl, Nat.le_of_ble_eq_true rfl⟩ rfl rfl (Nat.le_of_ble_eq_true rfl) dX12_mend_126 rfl ?_
        refine v_iload (pc := 129) K dX12_mend_129 7 rfl ?_
        obtain ⟨r26, M27, hc25, hF⟩ := q_bE hF
        refine v_callS (pc := 131) (As := [.int x7]) (rest := [.int r23]) (st' := [.int r26, .int r23]) (r := some (.int r26)) (M1 := M27) K (kX12_bits l K.2.2.2.2.2.2.1 hy hc25) (jg_S jl_X12_445 jw_t_X12_bits jw_n_X12 jw_c_X12_bits) rfl rfl rfl jd_X12_bits ⟨Nat.le_of_ble_eq_true rfl, Nat.le_of_ble_eq_true rfl⟩ rfl rfl (Nat.le_of_ble_eq_true rfl) dX12_mend_131 rfl ?_
        refine v_icmp_lt (pc := 134) (tgt := 140) K dX12_mend_134 (by decide) hF (fun c28 hF => ?_) (fun c28 hF => ?_)
        · exact bX12_mend_140 l K hy hQ ih hF
        · refine v_goto (pc := 137) (tgt := 164) K dX12_mend_137 (by decide) ?_
          exact bX12_mend_164 l K hy hQ ih hF
def fX12_mend_b103 (M : QM) (x1 : Int32) (x2 : Int32) (x3 : Int32) (x4 : Int32) (x5 : Int32) (x6 : Int32) : Option (Int32 × QM) := (fX12_mend_b110 q_F M x1 x2 x3 x4 x5 x6 (-2 : Int32) (0 : Int32))
set_option maxRecDepth 100000 in
set_option maxHeartbeats 4000000 in
theorem bX12_mend_103 {x : Cx} {y : Ly} (l : Launch) (K : VK x l rmX12_mend y 9 cX12_mend RX12 wqX12_mend) (hy : y.2.2.2.2 = 1) {z : Int32 × QM} (hQ : VQ x y (some (.int z.1)) z.2 (some .int)) {M : QM} {x1 : Int32} {x2 : Int32} {x3 : Int32} {x4 : Int32} {x5 : Int32} {x6 : Int32} (hF : fX12_mend_b103 M x1 x2 x3 x4 x5 x6 = some z) : V x y 9 M 103 [(0, .ref (ly_o y 1000)), (1, .int x1), (2, .int x2), (3, .int x3), (4, .int x4), (5, .int x5), (6, .int x6)] [] := by
  unfold fX12_mend_b103 at hF
  refine v_bipush (pc := 103) (v := -2) K dX12_mend_103 rfl ?_
  refine v_istore (pc := 105) (lv' := [(7, .int (-2 : Int32)), (0, .ref (ly_o y 1000)), (1, .int x1), (2, .int x2), (3, .int x3), (4, .int x4), (5, .int x5), (6, .int x6)]) K 7 dX12_mend_105 (by decide) rfl ?_
  refine v_iconst (pc := 107) (v := 0) K dX12_mend_107 rfl ?_
  refine v_istore (pc := 108) (lv' := [(8, .int (0 : Int32)), (7, .int (-2 : Int32)), (0, .ref (ly_o y 1000)), (1, .int x1), (2, .int x2), (3, .int x3), (4, .int x4), (5, .int x5), (6, .int x6)]) K 8 dX12_mend_108 (by decide) rfl ?_
  refine v_sub [2, 3, 4, 5, 6, 7, 8, 1, 0] rfl ?_
  exact bX12_mend_110 l K hy hQ q_F hF
def fX12_mend_b51 : Nat → QM → Int32 → Int32 → Int32 → Int32 → Int32 → Int32 → Int32 → Option (Int32 × QM)
  | 0, _, _, _, _, _, _, _, _ => none
  | q + 1, M, x1, x2, x3, x4, x5, x6, x7 => (if q_in x1 6 then if (q_a M 1000 9 x1.toNatClampNeg) ≤ x7 then (fX12_mend_b103 M x1 x2 x3 x4 x5 x6) else (if q_in (((70 : Int32) * x1) + ((5 : Int32) * x7)) 420 then if (q_a M 1000 8 (((70 : Int32) * x1) + ((5 : Int32) * x7)).toNatClampNeg) ≠ (1 : Int32) then (fX12_mend_b93 (fun M x1 x2 x3 x4 x5 x6 x7 => fX12_mend_b51 q M x1 x2 x3 x4 x5 x6 x7) M x1 x2 x3 x4 x5 x7 x6) else if (6 : Int32) ≤ x6 then (fX12_mend_b93 (fun M x1 x2 x3 x4 x5 x6 x7 => fX12_mend_b51 q M x1 x2 x3 x4 x5 x6 x7) M x1 x2 x3 x4 x5 x7 x6) else (fX12_mend_b94 (fun M x1 x2 x3 x4 x5 x6 x7 => fX12_mend_b51 q M x1 x2 x3 x4 x5 x6 x7) M x1 x2 x3 x4 x5 x7 (1 : Int32) x6) else none) else none)
set_option maxRecDepth 100000 in
set_option maxHeartbeats 4000000 in
theorem bX12_mend_51 {x : Cx} {y : Ly} (l : Launch) (K : VK x l rmX12_mend y 9 cX12_mend RX12 wqX12_mend) (hy : y.2.2.2.2 = 1) {z : Int32 × QM} (hQ : VQ x y (some (.int z.1)) z.2 (some .int)) : ∀ (q : Nat) {M : QM} {x1 : Int32} {x2 : Int32} {x3 : Int32} {x4 : Int32} {x5 : Int32} {x6 : Int32} {x7 : Int32},  fX12_mend_b51 q M x1 x2 x3 x4 x5 x6 x7 = some z → V x y 9 M 51 [(0, .ref (ly_o y 1000)), (1, .int x1), (2, .int x2), (3, .int x3), (4, .int x4), (5, .int x5), (6, .int x6), (7, .int x7)] [] := by
  intro q
  induction q with
  | zero =>
    intro M x1 x2 x3 x4 x5 x6 x7  hF
    rw [fX12_mend_b51] at hF
    cases hF
  | succ q ih =>
    intro M x1 x2 x3 x4 x5 x6 x7  hF
    rw [fX12_mend_b51] at hF
    refine v_iload (pc := 51) K dX12_mend_51 7 rfl ?_
    refine v_aload_n (pc := 53) K dX12_mend_53 0 rfl ?_
    refine gX12_clauses (pc := 54) K hy (by decide) jn_X12 (List.mem_cons_of_mem _ jl_X12_29) dX12_mend_54 ?_
    refine v_iload_n (pc := 57) K dX12_mend_57 1 rfl ?_
    refine iX12_clauses (pc := 58) K hy (by decide) hF dX12_mend_58 (fun hi17 hF => ?_)
    refine v_icmp_ge (pc := 59) (tgt := 103) K dX12_mend_59 (by decide) hF (fun c21 hF => ?_) (fun c21 hF => ?_)
    · refine v_sub [0, 1, 2, 3, 4, 5, 6] rfl ?_
      exact bX12_mend_103 l K hy hQ hF
    · refine v_iload (pc := 62) K dX12_mend_62 6 rfl ?_
      refine v_aload_n (pc := 64) K dX12_mend_64 0 rfl ?_
      refine gX12_clause (pc := 65) K hy (by decide) jn_X12 (List.mem_cons_of_mem _ jl_X12_26) dX12_mend_65 ?_
      refine v_bipush (pc := 68) (v := 70) K dX12_mend_68 rfl ?_
      refine v_iload_n (pc := 70) K dX12_mend_70 1 rfl ?_
      refine v_imul (pc := 71) K dX12_mend_71 ?_
      refine v_iconst (pc := 72) (v := 5) K dX12_mend_72 rfl ?_
      refine v_iload (pc := 73) K dX12_mend_73 7 rfl ?_
      refine v_imul (pc := 75) K dX12_mend_75 ?_
      refine v_iadd (pc := 76) K dX12_mend_76 ?_
      refine iX12_clause (pc := 77) K hy (by decide) hF dX12_mend_77 (fun hi18 hF => ?_)
      refine v_iconst (pc := 78) (v := 1) K dX12_mend_78 rfl ?_
      refine v_icmp_ne (pc := 79) (tgt := 93) K dX12_mend_79 (by decide) hF (fun c20 hF => ?_) (fun c20 hF => ?_)
      · refine v_sub [0, 1, 2, 3, 4, 5, 7] rfl ?_
        exact bX12_mend_93 l K hy hQ ih hF
      · refine v_iload (pc := 82) K dX12_mend_82 6 rfl ?_
        refine v_bipush (pc := 84) (v := 6) K dX12_mend_84 rfl ?_
        refine v_icmp_ge (pc := 86) (tgt := 93) K dX12_mend_86 (by decide) hF (fun c19 hF => ?_) (fun c19 hF => ?_)
        · refine v_sub [0, 1, 2, 3, 4, 5, 7] rfl ?_
          exact bX12_mend_93 l K hy hQ ih hF
        · refine v_iconst (pc := 89) (v := 1) K dX12_mend_89 rfl ?_
          refine v_goto (pc := 90) (tgt := 94) K dX12_mend_90 (by decide) ?_
          refine v_sub [0, 1, 2, 3, 4, 5, 7] rfl ?_
          exact bX12_mend_94 l K hy hQ ih hF
def fX12_mend (M : QM) (x1 : Int32) (x2 : Int32) (x3 : Int32) (x4 : Int32) (x5 : Int32) : Option (Int32 × QM) := (q_b (fX12_isCode M x1) fun r2 M3 => if r2 = (0 : Int32) then some ((-1 : Int32), M3) else (q_b (fX12_areTwo M3 x2 x3) fun r5 M6 => if r5 = (0 : Int32) then some ((-1 : Int32), M6) else (q_b (fX12_in M6 (Int32.toInt64 x4) (0 : Int64) (9 : Int64)) fun r8 M9 => if r8 = (0 : Int32) then some ((-1 : Int32), M9) else (q_b (fX12_in M9 (Int32.toInt64 x5) (0 : Int64) (3 : Int64)) fun r11 M12 => if r11 ≠ (0 : Int32) then (fX12_mend_b51 q_F M12 x1 x2 x3 x4 x5 (0 : Int32) (0 : Int32)) else some ((-1 : Int32), M12)))))
set_option maxRecDepth 100000 in
set_option maxHeartbeats 4000000 in
theorem bX12_mend_0 {x : Cx} {y : Ly} (l : Launch) (K : VK x l rmX12_mend y 9 cX12_mend RX12 wqX12_mend) (hy : y.2.2.2.2 = 1) {z : Int32 × QM} (hQ : VQ x y (some (.int z.1)) z.2 (some .int)) {M : QM} {x1 : Int32} {x2 : Int32} {x3 : Int32} {x4 : Int32} {x5 : Int32} (hF : fX12_mend M x1 x2 x3 x4 x5 = some z) : V x y 9 M 0 [(0, .ref (ly_o y 1000)), (1, .int x1), (2, .int x2), (3, .int x3), (4, .int x4), (5, .int x5)] [] := by
  unfold fX12_mend at hF
  refine v_aload_n (pc := 0) K dX12_mend_0 0 rfl ?_
  refine v_iload_n (pc := 1) K dX12_mend_1 1 rfl ?_
  obtain ⟨r2, M3, hc1, hF⟩ := q_bE hF
  refine v_callV (pc := 2) (ci := 11) (As := [.int x1]) (rest := []) (st' := [.int r2]) (r := some (.int r2)) (M1 := M3) K (kX12_isCode l K.2.2.2.2.2.2.1 hy hc1) (jg_V jl_X12_286 jw_i_X12_isCode jw_s_X12_isCode jw_n_X12 jw_c_X12_isCode) rfl rfl rfl jd_X12_isCode ⟨Nat.le_of_ble_eq_true rfl, Nat.le_of_ble_eq_true rfl⟩ rfl rfl (Nat.le_of_ble_eq_true rfl) (by decide) (okc_1 hy) rfl dX12_mend_2 rfl ?_
  refine v_if_eq (pc := 5) (tgt := 43) K dX12_mend_5 (by decide) hF (fun c16 hF => ?_) (fun c16 hF => ?_)
  · refine v_iconst (pc := 43) (v := -1) K dX12_mend_43 rfl ?_
    have hz := (Option.some.inj hF).symm
    subst hz
    exact v_iret (pc := 44) K hQ dX12_mend_44
  · refine v_aload_n (pc := 8) K dX12_mend_8 0 rfl ?_
    refine v_iload_n (pc := 9) K dX12_mend_9 2 rfl ?_
    refine v_iload_n (pc := 10) K dX12_mend_10 3 rfl ?_
    obtain ⟨r5, M6, hc4, hF⟩ := q_bE hF
    refine v_callV (pc := 11) (ci := 11) (As := [.int x2, .int x3]) (rest := []) (st' := [.int r5]) (r := some (.int r5)) (M1 := M6) K (kX12_areTwo l K.2.2.2.2.2.2.1 hy hc4) (jg_V jl_X12_107 jw_i_X12_areTwo jw_s_X12_areTwo jw_n_X12 jw_c_X12_areTwo) rfl rfl rfl jd_X12_areTwo ⟨Nat.le_of_ble_eq_true rfl, Nat.le_of_ble_eq_true rfl⟩ rfl rfl (Nat.le_of_ble_eq_true rfl) (by decide) (okc_1 hy) rfl dX12_mend_11 rfl ?_
    refine v_if_eq (pc := 14) (tgt := 43) K dX12_mend_14 (by decide) hF (fun c15 hF => ?_) (fun c15 hF => ?_)
    · refine v_iconst (pc := 43) (v := -1) K dX12_mend_43 rfl ?_
      have hz := (Option.some.inj hF).symm
      subst hz
      exact v_iret (pc := 44) K hQ dX12_mend_44
    · refine v_iload (pc := 17) K dX12_mend_17 4 rfl ?_
      refine v_i2l (pc := 19) K dX12_mend_19 ?_
      refine v_lconst (pc := 20) (v := 0) K dX12_mend_20 rfl ?_
      refine v_ldc2 (pc := 21) (v := 9) K dX12_mend_21 (List.mem_cons_of_mem _ jl_X12_101) ?_
      obtain ⟨r8, M9, hc7, hF⟩ := q_bE hF
      refine v_callS (pc := 24) (As := [.long (Int32.toInt64 x4), .long (0 : Int64), .long (9 : Int64)]) (rest := []) (st' := [.int r8]) (r := some (.int r8)) (M1 := M9) K (kX12_in l K.2.2.2.2.2.2.1 hy hc7) (jg_S jl_X12_97 jw_t_X12_in jw_n_X12 jw_c_X12_in) rfl rfl rfl jd_X12_in ⟨Nat.le_of_ble_eq_true rfl, Nat.le_of_ble_eq_true rfl⟩ rfl rfl (Nat.le_of_ble_eq_true rfl) dX12_mend_24 rfl ?_
      refine v_if_eq (pc := 27) (tgt := 43) K dX12_mend_27 (by decide) hF (fun c14 hF => ?_) (fun c14 hF => ?_)
      · refine v_iconst (pc := 43) (v := -1) K dX12_mend_43 rfl ?_
        have hz := (Option.some.inj hF).symm
        subst hz
        exact v_iret (pc := 44) K hQ dX12_mend_44
      · refine v_iload (pc := 30) K dX12_mend_30 5 rfl ?_
        refine v_i2l (pc := 32) K dX12_mend_32 ?_
        refine v_lconst (pc := 33) (v := 0) K dX12_mend_33 rfl ?_
        refine v_ldc2 (pc := 34) (v := 3) K dX12_mend_34 (List.mem_cons_of_mem _ jl_X12_289) ?_
        obtain ⟨r11, M12, hc10, hF⟩ := q_bE hF
        refine v_callS (pc := 37) (As := [.long (Int32.toInt64 x5), .long (0 : Int64), .long (3 : Int64)]) (rest := []) (st' := [.int r11]) (r := some (.int r11)) (M1 := M12) K (kX12_in l K.2.2.2.2.2.2.1 hy hc10) (jg_S jl_X12_97 jw_t_X12_in jw_n_X12 jw_c_X12_in) rfl rfl rfl jd_X12_in ⟨Nat.le_of_ble_eq_true rfl, Nat.le_of_ble_eq_true rfl⟩ rfl rfl (Nat.le_of_ble_eq_true rfl) dX12_mend_37 rfl ?_
        refine v_if_ne (pc := 40) (tgt := 45) K dX12_mend_40 (by decide) hF (fun c13 hF => ?_) (fun c13 hF => ?_)
        · refine v_iconst (pc := 45) (v := 0) K dX12_mend_45 rfl ?_
          refine v_istore (pc := 46) (lv' := [(6, .int (0 : Int32)), (0, .ref (ly_o y 1000)), (1, .int x1), (2, .int x2), (3, .int x3), (4, .int x4), (5, .int x5)]) K 6 dX12_mend_46 (by decide) rfl ?_
          refine v_iconst (pc := 48) (v := 0) K dX12_mend_48 rfl ?_
          refine v_istore (pc := 49) (lv' := [(7, .int (0 : Int32)), (6, .int (0 : Int32)), (0, .ref (ly_o y 1000)), (1, .int x1), (2, .int x2), (3, .int x3), (4, .int x4), (5, .int x5)]) K 7 dX12_mend_49 (by decide) rfl ?_
          refine v_sub [2, 3, 4, 5, 6, 7, 1, 0] rfl ?_
          exact bX12_mend_51 l K hy hQ q_F hF
        · refine v_iconst (pc := 43) (v := -1) K dX12_mend_43 rfl ?_
          have hz := (Option.some.inj hF).symm
          subst hz
          exact v_iret (pc := 44) K hQ dX12_mend_44
set_option maxRecDepth 100000 in
set_option maxHeartbeats 4000000 in
theorem kX12_mend (l : Launch) {y : Ly} (hJ : ly_J y) (hy : y.2.2.2.2 = 1) {M M1 : QM} {r : Int32} {x1 : Int32} {x2 : Int32} {x3 : Int32} {x4 : Int32} {x5 : Int32} (hF : fX12_mend M x1 x2 x3 x4 x5 = some (r, M1)) : Met l yX12_mend wqX12_mend rmX12_mend (q_P y [.ref (ly_o y 1000), .int x1, .int x2, .int x3, .int x4, .int x5] M) (q_E y (some (.int r)) M1) 0 0 (ly_A y) :=
  q_met (by decide) rfl hJ rfl rfl rfl (fun x K hQ => bX12_mend_0 l K hy (z := (r, M1)) hQ  hF)
-- ===== X12_image (I)I
theorem jd_X12_image : yX12_image.cls = RX12 ∧ yX12_image.cls ≠ "java/lang/invoke/MethodHandle" ∧ yX12_image.cls ≠ "java/lang/invoke/VarHandle" ∧ (parseMethodDescriptor yX12_image.desc).map (fun d => d.parameters.length) = some 1 := by decide +kernel
abbrev wqX12_image : List Cond := .code yX12_image cX12_image 4 (some .int) :: wsL_law
abbrev rmX12_image : Room := { frames := 1, cells := 0, slots := 0, locals := 25 }
def fX12_image_b144 (M : QM) : Option (Int32 × QM) := some (q_i M 1000 42, M)
set_option maxRecDepth 100000 in
set_option maxHeartbeats 4000000 in
theorem bX12_image_144 {x : Cx} {y : Ly} (l : Launch) (K : VK x l rmX12_image y 4 cX12_image RX12 wqX12_image) (hy : y.2.2.2.2 = 1) {z : Int32 × QM} (hQ : VQ x y (some (.int z.1)) z.2 (some .int)) {M : QM} (hF : fX12_image_b144 M  = some z) : V x y 4 M 144 [(0, .ref (ly_o y 1000))] [] := by
  unfold fX12_image_b144 at hF
  refine v_aload_n (pc := 144) K dX12_image_144 0 rfl ?_
  refine gX12_quarrels (pc := 145) K hy (by decide) jn_X12 (List.mem_cons_of_mem _ jl_X12_389) dX12_image_145 ?_
  have hz := (Option.some.inj hF).symm
  subst hz
  exact v_iret (pc := 148) K hQ dX12_image_148
def fX12_image_b113 : Nat → QM → Int32 → Int32 → Option (Int32 × QM)
  | 0, _, _, _ => none
  | q + 1, M, x2, x3 => if (1536 : Int32) ≤ x3 then (fX12_image_b144 M) else (if q_in x3 1536 then (if q_in ((x2 + (194 : Int32)) + x3) 6920 then (q_t (p_a M 1000 44 ((x2 + (194 : Int32)) + x3).toNatClampNeg (q_a M 1000 43 x3.toNatClampNeg)) fun M21 => (fX12_image_b113 q M21 x2 (x3 + (1 : Int32)))) else none) else none)
set_option maxRecDepth 100000 in
set_option maxHeartbeats 4000000 in
theorem bX12_image_113 {x : Cx} {y : Ly} (l : Launch) (K : VK x l rmX12_image y 4 cX12_image RX12 wqX12_image) (hy : y.2.2.2.2 = 1) {z : Int32 × QM} (hQ : VQ x y (some (.int z.1)) z.2 (some .int)) : ∀ (q : Nat) {M : QM} {x2 : Int32} {x3 : Int32},  fX12_image_b113 q M x2 x3 = some z → V x y 4 M 113 [(0, .ref (ly_o y 1000)), (2, .int x2), (3, .int x3)] [] := by
  intro q
  induction q with
  | zero =>
    intro M x2 x3  hF
    rw [fX12_image_b113] at hF
    cases hF
  | succ q ih =>
    intro M x2 x3  hF
    rw [fX12_image_b113] at hF
    refine v_iload_n (pc := 113) K dX12_image_113 2 rfl ?_
    refine v_sipush (pc := 114) (v := 1536) K dX12_image_114 rfl ?_
    refine v_icmp_ge (pc := 117) (tgt := 144) K dX12_image_117 (by decide) hF (fun c22 hF => ?_) (fun c22 hF => ?_)
    · refine v_sub [0] rfl ?_
      exact bX12_image_144 l K hy hQ hF
    · refine v_aload_n (pc := 120) K dX12_image_120 0 rfl ?_
      refine gX12_images (pc := 121) K hy (by decide) jn_X12 (List.mem_cons_of_mem _ jl_X12_85) dX12_image_121 ?_
      refine v_iload_n (pc := 124) K dX12_image_124 1 rfl ?_
      refine v_sipush (pc := 125) (v := 194) K dX12_image_125 rfl ?_
      refine v_iadd (pc := 128) K dX12_image_128 ?_
      refine v_iload_n (pc := 129) K dX12_image_129 2 rfl ?_
      refine v_iadd (pc := 130) K dX12_image_130 ?_
      refine v_aload_n (pc := 131) K dX12_image_131 0 rfl ?_
      refine gX12_told (pc := 132) K hy (by decide) jn_X12 (List.mem_cons_of_mem _ jl_X12_82) dX12_image_132 ?_
      refine v_iload_n (pc := 135) K dX12_image_135 2 rfl ?_
      refine iX12_told (pc := 136) K hy (by decide) hF dX12_image_136 (fun hi19 hF => ?_)
      refine uX12_images (pc := 137) K hy (by decide) hF dX12_image_137 (fun hi20 hF => ?_)
      refine v_nmM hF (fun M21 hF => ?_)
      refine v_iinc (pc := 138) (v1 := x3 + (1 : Int32)) (lv' := [(3, .int (x3 + (1 : Int32))), (0, .ref (ly_o y 1000)), (2, .int x2)]) K dX12_image_138 2 rfl rfl (by decide) rfl ?_
      refine v_goto (pc := 141) (tgt := 113) K dX12_image_141 (by decide) ?_
      refine v_sub [1, 2, 0] rfl ?_
      exact ih hF
def fX12_image_b111 (M : QM) (x2 : Int32) : Option (Int32 × QM) := (fX12_image_b113 q_F M x2 (0 : Int32))
set_option maxRecDepth 100000 in
set_option maxHeartbeats 4000000 in
theorem bX12_image_111 {x : Cx} {y : Ly} (l : Launch) (K : VK x l rmX12_image y 4 cX12_image RX12 wqX12_image) (hy : y.2.2.2.2 = 1) {z : Int32 × QM} (hQ : VQ x y (some (.int z.1)) z.2 (some .int)) {M : QM} {x2 : Int32} (hF : fX12_image_b111 M x2 = some z) : V x y 4 M 111 [(0, .ref (ly_o y 1000)), (2, .int x2)] [] := by
  unfold fX12_image_b111 at hF
  refine v_iconst (pc := 111) (v := 0) K dX12_image_111 rfl ?_
  refine v_istore_n (pc := 112) (lv' := [(3, .int (0 : Int32)), (0, .ref (ly_o y 1000)), (2, .int x2)]) K dX12_image_112 3 rfl (by decide) rfl ?_
  refine v_sub [1, 2, 0] rfl ?_
  exact bX12_image_113 l K hy hQ q_F hF
def fX12_image_b81 : Nat → QM → Int32 → Int32 → Option (Int32 × QM)
  | 0, _, _, _ => none
  | q + 1, M, x2, x3 => if (144 : Int32) ≤ x3 then (fX12_image_b111 M x2) else (if q_in x3 144 then (if q_in ((x2 + (50 : Int32)) + x3) 6920 then (q_t (p_a M 1000 44 ((x2 + (50 : Int32)) + x3).toNatClampNeg (q_a M 1000 2 x3.toNatClampNeg)) fun M17 => (fX12_image_b81 q M17 x2 (x3 + (1 : Int32)))) else none) else none)
set_option maxRecDepth 100000 in
set_option maxHeartbeats 4000000 in
theorem bX12_image_81 {x : Cx} {y : Ly} (l : Launch) (K : VK x l rmX12_image y 4 cX12_image RX12 wqX12_image) (hy : y.2.2.2.2 = 1) {z : Int32 × QM} (hQ : VQ x y (some (.int z.1)) z.2 (some .int)) : ∀ (q : Nat) {M : QM} {x2 : Int32} {x3 : Int32},  fX12_image_b81 q M x2 x3 = some z → V x y 4 M 81 [(0, .ref (ly_o y 1000)), (2, .int x2), (3, .int x3)] [] := by
  intro q
  induction q with
  | zero =>
    intro M x2 x3  hF
    rw [fX12_image_b81] at hF
    cases hF
  | succ q ih =>
    intro M x2 x3  hF
    rw [fX12_image_b81] at hF
    refine v_iload_n (pc := 81) K dX12_image_81 2 rfl ?_
    refine v_sipush (pc := 82) (v := 144) K dX12_image_82 rfl ?_
    refine v_icmp_ge (pc := 85) (tgt := 111) K dX12_image_85 (by decide) hF (fun c18 hF => ?_) (fun c18 hF => ?_)
    · refine v_sub [0, 1] rfl ?_
      exact bX12_image_111 l K hy hQ hF
    · refine v_aload_n (pc := 88) K dX12_image_88 0 rfl ?_
      refine gX12_images (pc := 89) K hy (by decide) jn_X12 (List.mem_cons_of_mem _ jl_X12_85) dX12_image_89 ?_
      refine v_iload_n (pc := 92) K dX12_image_92 1 rfl ?_
      refine v_bipush (pc := 93) (v := 50) K dX12_image_93 rfl ?_
      refine v_iadd (pc := 95) K dX12_image_95 ?_
      refine v_iload_n (pc := 96) K dX12_image_96 2 rfl ?_
      refine v_iadd (pc := 97) K dX12_image_97 ?_
      refine v_aload_n (pc := 98) K dX12_image_98 0 rfl ?_
      refine gX12_owes (pc := 99) K hy (by decide) jn_X12 (List.mem_cons_of_mem _ jl_X12_13) dX12_image_99 ?_
      refine v_iload_n (pc := 102) K dX12_image_102 2 rfl ?_
      refine iX12_owes (pc := 103) K hy (by decide) hF dX12_image_103 (fun hi15 hF => ?_)
      refine uX12_images (pc := 104) K hy (by decide) hF dX12_image_104 (fun hi16 hF => ?_)
      refine v_nmM hF (fun M17 hF => ?_)
      refine v_iinc (pc := 105) (v1 := x3 + (1 : Int32)) (lv' := [(3, .int (x3 + (1 : Int32))), (0, .ref (ly_o y 1000)), (2, .int x2)]) K dX12_image_105 2 rfl rfl (by decide) rfl ?_
      refine v_goto (pc := 108) (tgt := 81) K dX12_image_108 (by decide) ?_
      refine v_sub [1, 2, 0] rfl ?_
      exact ih hF
def fX12_image_b79 (M : QM) (x2 : Int32) : Option (Int32 × QM) := (fX12_image_b81 q_F M x2 (0 : Int32))
set_option maxRecDepth 100000 in
set_option maxHeartbeats 4000000 in
theorem bX12_image_79 {x : Cx} {y : Ly} (l : Launch) (K : VK x l rmX12_image y 4 cX12_image RX12 wqX12_image) (hy : y.2.2.2.2 = 1) {z : Int32 × QM} (hQ : VQ x y (some (.int z.1)) z.2 (some .int)) {M : QM} {x2 : Int32} (hF : fX12_image_b79 M x2 = some z) : V x y 4 M 79 [(0, .ref (ly_o y 1000)), (2, .int x2)] [] := by
  unfold fX12_image_b79 at hF
  refine v_iconst (pc := 79) (v := 0) K dX12_image_79 rfl ?_
  refine v_istore_n (pc := 80) (lv' := [(3, .int (0 : Int32)), (0, .ref (ly_o y 1000)), (2, .int x2)]) K dX12_image_80 3 rfl (by decide) rfl ?_
  refine v_sub [1, 2, 0] rfl ?_
  exact bX12_image_81 l K hy hQ q_F hF
def fX12_image_b51 : Nat → QM → Int32 → Int32 → Option (Int32 × QM)
  | 0, _, _, _ => none
  | q + 1, M, x2, x3 => if (48 : Int32) ≤ x3 then (fX12_image_b79 M x2) else (if q_in x3 48 then (if q_in ((x2 + (2 : Int32)) + x3) 6920 then (q_t (p_a M 1000 44 ((x2 + (2 : Int32)) + x3).toNatClampNeg (q_a M 1000 1 x3.toNatClampNeg)) fun M13 => (fX12_image_b51 q M13 x2 (x3 + (1 : Int32)))) else none) else none)
set_option maxRecDepth 100000 in
set_option maxHeartbeats 4000000 in
theorem bX12_image_51 {x : Cx} {y : Ly} (l : Launch) (K : VK x l rmX12_image y 4 cX12_image RX12 wqX12_image) (hy : y.2.2.2.2 = 1) {z : Int32 × QM} (hQ : VQ x y (some (.int z.1)) z.2 (some .int)) : ∀ (q : Nat) {M : QM} {x2 : Int32} {x3 : Int32},  fX12_image_b51 q M x2 x3 = some z → V x y 4 M 51 [(0, .ref (ly_o y 1000)), (2, .int x2), (3, .int x3)] [] := by
  intro q
  induction q with
  | zero =>
    intro M x2 x3  hF
    rw [fX12_image_b51] at hF
    cases hF
  | succ q ih =>
    intro M x2 x3  hF
    rw [fX12_image_b51] at hF
    refine v_iload_n (pc := 51) K dX12_image_51 2 rfl ?_
    refine v_bipush (pc := 52) (v := 48) K dX12_image_52 rfl ?_
    refine v_icmp_ge (pc := 54) (tgt := 79) K dX12_image_54 (by decide) hF (fun c14 hF => ?_) (fun c14 hF => ?_)
    · refine v_sub [0, 1] rfl ?_
      exact bX12_image_79 l K hy hQ hF
    · refine v_aload_n (pc := 57) K dX12_image_57 0 rfl ?_
      refine gX12_images (pc := 58) K hy (by decide) jn_X12 (List.mem_cons_of_mem _ jl_X12_85) dX12_image_58 ?_
      refine v_iload_n (pc := 61) K dX12_image_61 1 rfl ?_
      refine v_iconst (pc := 62) (v := 2) K dX12_image_62 rfl ?_
      refine v_iadd (pc := 63) K dX12_image_63 ?_
      refine v_iload_n (pc := 64) K dX12_image_64 2 rfl ?_
      refine v_iadd (pc := 65) K dX12_image_65 ?_
      refine v_aload_n (pc := 66) K dX12_image_66 0 rfl ?_
      refine gX12_person (pc := 67) K hy (by decide) jn_X12 (List.mem_cons_of_mem _ jl_X12_7) dX12_image_67 ?_
      refine v_iload_n (pc := 70) K dX12_image_70 2 rfl ?_
      refine iX12_person (pc := 71) K hy (by decide) hF dX12_image_71 (fun hi11 hF => ?_)
      refine uX12_images (pc := 72) K hy (by decide) hF dX12_image_72 (fun hi12 hF => ?_)
      refine v_nmM hF (fun M13 hF => ?_)
      refine v_iinc (pc := 73) (v1 := x3 + (1 : Int32)) (lv' := [(3, .int (x3 + (1 : Int32))), (0, .ref (ly_o y 1000)), (2, .int x2)]) K dX12_image_73 2 rfl rfl (by decide) rfl ?_
      refine v_goto (pc := 76) (tgt := 51) K dX12_image_76 (by decide) ?_
      refine v_sub [1, 2, 0] rfl ?_
      exact ih hF
def fX12_image (M : QM) (x1 : Int32) : Option (Int32 × QM) := (q_b (fX12_in M (Int32.toInt64 x1) (0 : Int64) (3 : Int64)) fun r2 M3 => if r2 ≠ (0 : Int32) then (if q_in x1 4 then (q_t (p_a M3 1000 45 x1.toNatClampNeg (vp_nar .boolean (1 : Int32))) fun M5 => (if q_in ((1730 : Int32) * x1) 6920 then (q_t (p_a M5 1000 44 ((1730 : Int32) * x1).toNatClampNeg (q_i M5 1000 0)) fun M7 => (if q_in (((1730 : Int32) * x1) + (1 : Int32)) 6920 then (q_t (p_a M7 1000 44 (((1730 : Int32) * x1) + (1 : Int32)).toNatClampNeg (q_i M7 1000 42)) fun M9 => (fX12_image_b51 q_F M9 ((1730 : Int32) * x1) (0 : Int32))) else none)) else none)) else none) else some ((-1 : Int32), M3))
set_option maxRecDepth 100000 in
set_option maxHeartbeats 4000000 in
theorem bX12_image_0 {x : Cx} {y : Ly} (l : Launch) (K : VK x l rmX12_image y 4 cX12_image RX12 wqX12_image) (hy : y.2.2.2.2 = 1) {z : Int32 × QM} (hQ : VQ x y (some (.int z.1)) z.2 (some .int)) {M : QM} {x1 : Int32} (hF : fX12_image M x1 = some z) : V x y 4 M 0 [(0, .ref (ly_o y 1000)), (1, .int x1)] [] := by
  unfold fX12_image at hF
  refine v_iload_n (pc := 0) K dX12_image_0 1 rfl ?_
  refine v_i2l (pc := 1) K dX12_image_1 ?_
  refine v_lconst (pc := 2) (v := 0) K dX12_image_2 rfl ?_
  refine v_ldc2 (pc := 3) (v := 3) K dX12_image_3 (List.mem_cons_of_mem _ jl_X12_289) ?_
  obtain ⟨r2, M3, hc1, hF⟩ := q_bE hF
  refine v_callS (pc := 6) (As := [.long (Int32.toInt64 x1), .long (0 : Int64), .long (3 : Int64)]) (rest := []) (st' := [.int r2]) (r := some (.int r2)) (M1 := M3) K (kX12_in l K.2.2.2.2.2.2.1 hy hc1) (jg_S jl_X12_97 jw_t_X12_in jw_n_X12 jw_c_X12_in) rfl rfl rfl jd_X12_in ⟨Nat.le_of_ble_eq_true rfl, Nat.le_of_ble_eq_true rfl⟩ rfl rfl (Nat.le_of_ble_eq_true rfl) dX12_image_6 rfl ?_
  refine v_if_ne (pc := 9) (tgt := 14) K dX12_image_9 (by decide) hF (fun c10 hF => ?_) (fun c10 hF => ?_)
  · refine v_aload_n (pc := 14) K dX12_image_14 0 rfl ?_
    refine gX12_isMade (pc := 15) K hy (by decide) jn_X12 (List.mem_cons_of_mem _ jl_X12_88) dX12_image_15 ?_
    refine v_iload_n (pc := 18) K dX12_image_18 1 rfl ?_
    refine v_iconst (pc := 19) (v := 1) K dX12_image_19 rfl ?_
    refine uX12_isMade (pc := 20) K hy (by decide) hF dX12_image_20 (fun hi4 hF => ?_)
    refine v_nmM hF (fun M5 hF => ?_)
    refine v_sipush (pc := 21) (v := 1730) K dX12_image_21 rfl ?_
    refine v_iload_n (pc := 24) K dX12_image_24 1 rfl ?_
    refine v_imul (pc := 25) K dX12_image_25 ?_
    refine v_istore_n (pc := 26) (lv' := [(2, .int ((1730 : Int32) * x1)), (0, .ref (ly_o y 1000)), (1, .int x1)]) K dX12_image_26 2 rfl (by decide) rfl ?_
    refine v_aload_n (pc := 27) K dX12_image_27 1 rfl ?_
    refine gX12_images (pc := 28) K hy (by decide) jn_X12 (List.mem_cons_of_mem _ jl_X12_85) dX12_image_28 ?_
    refine v_iload_n (pc := 31) K dX12_image_31 0 rfl ?_
    refine v_aload_n (pc := 32) K dX12_image_32 1 rfl ?_
    refine gX12_people (pc := 33) K hy (by decide) jn_X12 (List.mem_cons_of_mem _ jl_X12_91) dX12_image_33 ?_
    refine uX12_images (pc := 36) K hy (by decide) hF dX12_image_36 (fun hi6 hF => ?_)
    refine v_nmM hF (fun M7 hF => ?_)
    refine v_aload_n (pc := 37) K dX12_image_37 1 rfl ?_
    refine gX12_images (pc := 38) K hy (by decide) jn_X12 (List.mem_cons_of_mem _ jl_X12_85) dX12_image_38 ?_
    refine v_iload_n (pc := 41) K dX12_image_41 0 rfl ?_
    refine v_iconst (pc := 42) (v := 1) K dX12_image_42 rfl ?_
    refine v_iadd (pc := 43) K dX12_image_43 ?_
    refine v_aload_n (pc := 44) K dX12_image_44 1 rfl ?_
    refine gX12_quarrels (pc := 45) K hy (by decide) jn_X12 (List.mem_cons_of_mem _ jl_X12_389) dX12_image_45 ?_
    refine uX12_images (pc := 48) K hy (by decide) hF dX12_image_48 (fun hi8 hF => ?_)
    refine v_nmM hF (fun M9 hF => ?_)
    refine v_iconst (pc := 49) (v := 0) K dX12_image_49 rfl ?_
    refine v_istore_n (pc := 50) (lv' := [(3, .int (0 : Int32)), (2, .int ((1730 : Int32) * x1)), (0, .ref (ly_o y 1000)), (1, .int x1)]) K dX12_image_50 3 rfl (by decide) rfl ?_
    refine v_sub [2, 1, 0] rfl ?_
    exact bX12_image_51 l K hy hQ q_F hF
  · refine v_iconst (pc := 12) (v := -1) K dX12_image_12 rfl ?_
    have hz := (Option.some.inj hF).symm
    subst hz
    exact v_iret (pc := 13) K hQ dX12_image_13
set_option maxRecDepth 100000 in
set_option maxHeartbeats 4000000 in
theorem kX12_image (l : Launch) {y : Ly} (hJ : ly_J y) (hy : y.2.2.2.2 = 1) {M M1 : QM} {r : Int32} {x1 : Int32} (hF : fX12_image M x1 = some (r, M1)) : Met l yX12_image wqX12_image rmX12_image (q_P y [.ref (ly_o y 1000), .int x1] M) (q_E y (some (.int r)) M1) 0 0 (ly_A y) :=
  q_met (by decide) rfl hJ rfl rfl rfl (fun x K hQ => bX12_image_0 l K hy (z := (r, M1)) hQ  hF)
-- ===== X12_back (I)I
theorem jd_X12_back : yX12_back.cls = RX12 ∧ yX12_back.cls ≠ "java/lang/invoke/MethodHandle" ∧ yX12_back.cls ≠ "java/lang/invoke/VarHandle" ∧ (parseMethodDescriptor yX12_back.desc).map (fun d => d.parameters.length) = some 1 := by decide +kernel
abbrev wqX12_back : List Cond := .code yX12_back cX12_back 4 (some .int) :: wsL_law
abbrev rmX12_back : Room := { frames := 1, cells := 0, slots := 0, locals := 25 }
def fX12_back_b146 (M : QM) : Option (Int32 × QM) := some (q_i M 1000 42, M)
set_option maxRecDepth 100000 in
set_option maxHeartbeats 4000000 in
theorem bX12_back_146 {x : Cx} {y : Ly} (l : Launch) (K : VK x l rmX12_back y 4 cX12_back RX12 wqX12_back) (hy : y.2.2.2.2 = 1) {z : Int32 × QM} (hQ : VQ x y (some (.int z.1)) z.2 (some .int)) {M : QM} (hF : fX12_back_b146 M  = some z) : V x y 4 M 146 [(0, .ref (ly_o y 1000))] [] := by
  unfold fX12_back_b146 at hF
  refine v_aload_n (pc := 146) K dX12_back_146 0 rfl ?_
  refine gX12_quarrels (pc := 147) K hy (by decide) jn_X12 (List.mem_cons_of_mem _ jl_X12_389) dX12_back_147 ?_
  have hz := (Option.some.inj hF).symm
  subst hz
  exact v_iret (pc := 150) K hQ dX12_back_150
def fX12_back_b115 : Nat → QM → Int32 → Int32 → Option (Int32 × QM)
  | 0, _, _, _ => none
  | q + 1, M, x2, x3 => if (1536 : Int32) ≤ x3 then (fX12_back_b146 M) else (if q_in ((x2 + (194 : Int32)) + x3) 6920 then (if q_in x3 1536 then (q_t (p_a M 1000 43 x3.toNatClampNeg (q_a M 1000 44 ((x2 + (194 : Int32)) + x3).toNatClampNeg)) fun M21 => (fX12_back_b115 q M21 x2 (x3 + (1 : Int32)))) else none) else none)
set_option maxRecDepth 100000 in
set_option maxHeartbeats 4000000 in
theorem bX12_back_115 {x : Cx} {y : Ly} (l : Launch) (K : VK x l rmX12_back y 4 cX12_back RX12 wqX12_back) (hy : y.2.2.2.2 = 1) {z : Int32 × QM} (hQ : VQ x y (some (.int z.1)) z.2 (some .int)) : ∀ (q : Nat) {M : QM} {x2 : Int32} {x3 : Int32},  fX12_back_b115 q M x2 x3 = some z → V x y 4 M 115 [(0, .ref (ly_o y 1000)), (2, .int x2), (3, .int x3)] [] := by
  intro q
  induction q with
  | zero =>
    intro M x2 x3  hF
    rw [fX12_back_b115] at hF
    cases hF
  | succ q ih =>
    intro M x2 x3  hF
    rw [fX12_back_b115] at hF
    refine v_iload_n (pc := 115) K dX12_back_115 2 rfl ?_
    refine v_sipush (pc := 116) (v := 1536) K dX12_back_116 rfl ?_
    refine v_icmp_ge (pc := 119) (tgt := 146) K dX12_back_119 (by decide) hF (fun c22 hF => ?_) (fun c22 hF => ?_)
    · refine v_sub [0] rfl ?_
      exact bX12_back_146 l K hy hQ hF
    · refine v_aload_n (pc := 122) K dX12_back_122 0 rfl ?_
      refine gX12_told (pc := 123) K hy (by decide) jn_X12 (List.mem_cons_of_mem _ jl_X12_82) dX12_back_123 ?_
      refine v_iload_n (pc := 126) K dX12_back_126 2 rfl ?_
      refine v_aload_n (pc := 127) K dX12_back_127 0 rfl ?_
      refine gX12_images (pc := 128) K hy (by decide) jn_X12 (List.mem_cons_of_mem _ jl_X12_85) dX12_back_128 ?_
      refine v_iload_n (pc := 131) K dX12_back_131 1 rfl ?_
      refine v_sipush (pc := 132) (v := 194) K dX12_back_132 rfl ?_
      refine v_iadd (pc := 135) K dX12_back_135 ?_
      refine v_iload_n (pc := 136) K dX12_back_136 2 rfl ?_
      refine v_iadd (pc := 137) K dX12_back_137 ?_
      refine iX12_images (pc := 138) K hy (by decide) hF dX12_back_138 (fun hi19 hF => ?_)
      refine uX12_told (pc := 139) K hy (by decide) hF dX12_back_139 (fun hi20 hF => ?_)
      refine v_nmM hF (fun M21 hF => ?_)
      refine v_iinc (pc := 140) (v1 := x3 + (1 : Int32)) (lv' := [(3, .int (x3 + (1 : Int32))), (0, .ref (ly_o y 1000)), (2, .int x2)]) K dX12_back_140 2 rfl rfl (by decide) rfl ?_
      refine v_goto (pc := 143) (tgt := 115) K dX12_back_143 (by decide) ?_
      refine v_sub [1, 2, 0] rfl ?_
      exact ih hF
def fX12_back_b113 (M : QM) (x2 : Int32) : Option (Int32 × QM) := (fX12_back_b115 q_F M x2 (0 : Int32))
set_option maxRecDepth 100000 in
set_option maxHeartbeats 4000000 in
theorem bX12_back_113 {x : Cx} {y : Ly} (l : Launch) (K : VK x l rmX12_back y 4 cX12_back RX12 wqX12_back) (hy : y.2.2.2.2 = 1) {z : Int32 × QM} (hQ : VQ x y (some (.int z.1)) z.2 (some .int)) {M : QM} {x2 : Int32} (hF : fX12_back_b113 M x2 = some z) : V x y 4 M 113 [(0, .ref (ly_o y 1000)), (2, .int x2)] [] := by
  unfold fX12_back_b113 at hF
  refine v_iconst (pc := 113) (v := 0) K dX12_back_113 rfl ?_
  refine v_istore_n (pc := 114) (lv' := [(3, .int (0 : Int32)), (0, .ref (ly_o y 1000)), (2, .int x2)]) K dX12_back_114 3 rfl (by decide) rfl ?_
  refine v_sub [1, 2, 0] rfl ?_
  exact bX12_back_115 l K hy hQ q_F hF
def fX12_back_b83 : Nat → QM → Int32 → Int32 → Option (Int32 × QM)
  | 0, _, _, _ => none
  | q + 1, M, x2, x3 => if (144 : Int32) ≤ x3 then (fX12_back_b113 M x2) else (if q_in ((x2 + (50 : Int32)) + x3) 6920 then (if q_in x3 144 then (q_t (p_a M 1000 2 x3.toNatClampNeg (q_a M 1000 44 ((x2 + (50 : Int32)) + x3).toNatClampNeg)) fun M17 => (fX12_back_b83 q M17 x2 (x3 + (1 : Int32)))) else none) else none)
set_option maxRecDepth 100000 in
set_option maxHeartbeats 4000000 in
theorem bX12_back_83 {x : Cx} {y : Ly} (l : Launch) (K : VK x l rmX12_back y 4 cX12_back RX12 wqX12_back) (hy : y.2.2.2.2 = 1) {z : Int32 × QM} (hQ : VQ x y (some (.int z.1)) z.2 (some .int)) : ∀ (q : Nat) {M : QM} {x2 : Int32} {x3 : Int32},  fX12_back_b83 q M x2 x3 = some z → V x y 4 M 83 [(0, .ref (ly_o y 1000)), (2, .int x2), (3, .int x3)] [] := by
  intro q
  induction q with
  | zero =>
    intro M x2 x3  hF
    rw [fX12_back_b83] at hF
    cases hF
  | succ q ih =>
    intro M x2 x3  hF
    rw [fX12_back_b83] at hF
    refine v_iload_n (pc := 83) K dX12_back_83 2 rfl ?_
    refine v_sipush (pc := 84) (v := 144) K dX12_back_84 rfl ?_
    refine v_icmp_ge (pc := 87) (tgt := 113) K dX12_back_87 (by decide) hF (fun c18 hF => ?_) (fun c18 hF => ?_)
    · refine v_sub [0, 1] rfl ?_
      exact bX12_back_113 l K hy hQ hF
    · refine v_aload_n (pc := 90) K dX12_back_90 0 rfl ?_
      refine gX12_owes (pc := 91) K hy (by decide) jn_X12 (List.mem_cons_of_mem _ jl_X12_13) dX12_back_91 ?_
      refine v_iload_n (pc := 94) K dX12_back_94 2 rfl ?_
      refine v_aload_n (pc := 95) K dX12_back_95 0 rfl ?_
      refine gX12_images (pc := 96) K hy (by decide) jn_X12 (List.mem_cons_of_mem _ jl_X12_85) dX12_back_96 ?_
      refine v_iload_n (pc := 99) K dX12_back_99 1 rfl ?_
      refine v_bipush (pc := 100) (v := 50) K dX12_back_100 rfl ?_
      refine v_iadd (pc := 102) K dX12_back_102 ?_
      refine v_iload_n (pc := 103) K dX12_back_103 2 rfl ?_
      refine v_iadd (pc := 104) K dX12_back_104 ?_
      refine iX12_images (pc := 105) K hy (by decide) hF dX12_back_105 (fun hi15 hF => ?_)
      refine uX12_owes (pc := 106) K hy (by decide) hF dX12_back_106 (fun hi16 hF => ?_)
      refine v_nmM hF (fun M17 hF => ?_)
      refine v_iinc (pc := 107) (v1 := x3 + (1 : Int32)) (lv' := [(3, .int (x3 + (1 : Int32))), (0, .ref (ly_o y 1000)), (2, .int x2)]) K dX12_back_107 2 rfl rfl (by decide) rfl ?_
      refine v_goto (pc := 110) (tgt := 83) K dX12_back_110 (by decide) ?_
      refine v_sub [1, 2, 0] rfl ?_
      exact ih hF
def fX12_back_b81 (M : QM) (x2 : Int32) : Option (Int32 × QM) := (fX12_back_b83 q_F M x2 (0 : Int32))
set_option maxRecDepth 100000 in
set_option maxHeartbeats 4000000 in
theorem bX12_back_81 {x : Cx} {y : Ly} (l : Launch) (K : VK x l rmX12_back y 4 cX12_back RX12 wqX12_back) (hy : y.2.2.2.2 = 1) {z : Int32 × QM} (hQ : VQ x y (some (.int z.1)) z.2 (some .int)) {M : QM} {x2 : Int32} (hF : fX12_back_b81 M x2 = some z) : V x y 4 M 81 [(0, .ref (ly_o y 1000)), (2, .int x2)] [] := by
  unfold fX12_back_b81 at hF
  refine v_iconst (pc := 81) (v := 0) K dX12_back_81 rfl ?_
  refine v_istore_n (pc := 82) (lv' := [(3, .int (0 : Int32)), (0, .ref (ly_o y 1000)), (2, .int x2)]) K dX12_back_82 3 rfl (by decide) rfl ?_
  refine v_sub [1, 2, 0] rfl ?_
  exact bX12_back_83 l K hy hQ q_F hF
def fX12_back_b53 : Nat → QM → Int32 → Int32 → Option (Int32 × QM)
  | 0, _, _, _ => none
  | q + 1, M, x2, x3 => if (48 : Int32) ≤ x3 then (fX12_back_b81 M x2) else (if q_in ((x2 + (2 : Int32)) + x3) 6920 then (if q_in x3 48 then (q_t (p_a M 1000 1 x3.toNatClampNeg (q_a M 1000 44 ((x2 + (2 : Int32)) + x3).toNatClampNeg)) fun M13 => (fX12_back_b53 q M13 x2 (x3 + (1 : Int32)))) else none) else none)
set_option maxRecDepth 100000 in
set_option maxHeartbeats 4000000 in
theorem bX12_back_53 {x : Cx} {y : Ly} (l : Launch) (K : VK x l rmX12_back y 4 cX12_back RX12 wqX12_back) (hy : y.2.2.2.2 = 1) {z : Int32 × QM} (hQ : VQ x y (some (.int z.1)) z.2 (some .int)) : ∀ (q : Nat) {M : QM} {x2 : Int32} {x3 : Int32},  fX12_back_b53 q M x2 x3 = some z → V x y 4 M 53 [(0, .ref (ly_o y 1000)), (2, .int x2), (3, .int x3)] [] := by
  intro q
  induction q with
  | zero =>
    intro M x2 x3  hF
    rw [fX12_back_b53] at hF
    cases hF
  | succ q ih =>
    intro M x2 x3  hF
    rw [fX12_back_b53] at hF
    refine v_iload_n (pc := 53) K dX12_back_53 2 rfl ?_
    refine v_bipush (pc := 54) (v := 48) K dX12_back_54 rfl ?_
    refine v_icmp_ge (pc := 56) (tgt := 81) K dX12_back_56 (by decide) hF (fun c14 hF => ?_) (fun c14 hF => ?_)
    · refine v_sub [0, 1] rfl ?_
      exact bX12_back_81 l K hy hQ hF
    · refine v_aload_n (pc := 59) K dX12_back_59 0 rfl ?_
      refine gX12_person (pc := 60) K hy (by decide) jn_X12 (List.mem_cons_of_mem _ jl_X12_7) dX12_back_60 ?_
      refine v_iload_n (pc := 63) K dX12_back_63 2 rfl ?_
      refine v_aload_n (pc := 64) K dX12_back_64 0 rfl ?_
      refine gX12_images (pc := 65) K hy (by decide) jn_X12 (List.mem_cons_of_mem _ jl_X12_85) dX12_back_65 ?_
      refine v_iload_n (pc := 68) K dX12_back_68 1 rfl ?_
      refine v_iconst (pc := 69) (v := 2) K dX12_back_69 rfl ?_
      refine v_iadd (pc := 70) K dX12_back_70 ?_
      refine v_iload_n (pc := 71) K dX12_back_71 2 rfl ?_
      refine v_iadd (pc := 72) K dX12_back_72 ?_
      refine iX12_images (pc := 73) K hy (by decide) hF dX12_back_73 (fun hi11 hF => ?_)
      refine uX12_person (pc := 74) K hy (by decide) hF dX12_back_74 (fun hi12 hF => ?_)
      refine v_nmM hF (fun M13 hF => ?_)
      refine v_iinc (pc := 75) (v1 := x3 + (1 : Int32)) (lv' := [(3, .int (x3 + (1 : Int32))), (0, .ref (ly_o y 1000)), (2, .int x2)]) K dX12_back_75 2 rfl rfl (by decide) rfl ?_
      refine v_goto (pc := 78) (tgt := 53) K dX12_back_78 (by decide) ?_
      refine v_sub [1, 2, 0] rfl ?_
      exact ih hF
def fX12_back (M : QM) (x1 : Int32) : Option (Int32 × QM) := (q_b (fX12_in M (Int32.toInt64 x1) (0 : Int64) (3 : Int64)) fun r2 M3 => if r2 = (0 : Int32) then some ((-1 : Int32), M3) else (if q_in x1 4 then if (q_a M3 1000 45 x1.toNatClampNeg) ≠ (0 : Int32) then (if q_in ((1730 : Int32) * x1) 6920 then (q_t (p_i M3 1000 0 (q_a M3 1000 44 ((1730 : Int32) * x1).toNatClampNeg)) fun M6 => (if q_in (((1730 : Int32) * x1) + (1 : Int32)) 6920 then (q_t (p_i M6 1000 42 (q_a M6 1000 44 (((1730 : Int32) * x1) + (1 : Int32)).toNatClampNeg)) fun M8 => (fX12_back_b53 q_F M8 ((1730 : Int32) * x1) (0 : Int32))) else none)) else none) else some ((-1 : Int32), M3) else none))
set_option maxRecDepth 100000 in
set_option maxHeartbeats 4000000 in
theorem bX12_back_0 {x : Cx} {y : Ly} (l : Launch) (K : VK x l rmX12_back y 4 cX12_back RX12 wqX12_back) (hy : y.2.2.2.2 = 1) {z : Int32 × QM} (hQ : VQ x y (some (.int z.1)) z.2 (some .int)) {M : QM} {x1 : Int32} (hF : fX12_back M x1 = some z) : V x y 4 M 0 [(0, .ref (ly_o y 1000)), (1, .int x1)] [] := by
  unfold fX12_back at hF
  refine v_iload_n (pc := 0) K dX12_back_0 1 rfl ?_
  refine v_i2l (pc := 1) K dX12_back_1 ?_
  refine v_lconst (pc := 2) (v := 0) K dX12_back_2 rfl ?_
  refine v_ldc2 (pc := 3) (v := 3) K dX12_back_3 (List.mem_cons_of_mem _ jl_X12_289) ?_
  obtain ⟨r2, M3, hc1, hF⟩ := q_bE hF
  refine v_callS (pc := 6) (As := [.long (Int32.toInt64 x1), .long (0 : Int64), .long (3 : Int64)]) (rest := []) (st' := [.int r2]) (r := some (.int r2)) (M1 := M3) K (kX12_in l K.2.2.2.2.2.2.1 hy hc1) (jg_S jl_X12_97 jw_t_X12_in jw_n_X12 jw_c_X12_in) rfl rfl rfl jd_X12_in ⟨Nat.le_of_ble_eq_true rfl, Nat.le_of_ble_eq_true rfl⟩ rfl rfl (Nat.le_of_ble_eq_true rfl) dX12_back_6 rfl ?_
  refine v_if_eq (pc := 9) (tgt := 21) K dX12_back_9 (by decide) hF (fun c10 hF => ?_) (fun c10 hF => ?_)
  · refine v_iconst (pc := 21) (v := -1) K dX12_back_21 rfl ?_
    have hz := (Option.some.inj hF).symm
    subst hz
    exact v_iret (pc := 22) K hQ dX12_back_22
  · refine v_aload_n (pc := 12) K dX12_back_12 0 rfl ?_
    refine gX12_isMade (pc := 13) K hy (by decide) jn_X12 (List.mem_cons_of_mem _ jl_X12_88) dX12_back_13 ?_
    refine v_iload_n (pc := 16) K dX12_back_16 1 rfl ?_
    refine iX12_isMade (pc := 17) K hy (by decide) hF dX12_back_17 (fun hi4 hF => ?_)
    refine v_if_ne (pc := 18) (tgt := 23) K dX12_back_18 (by decide) hF (fun c9 hF => ?_) (fun c9 hF => ?_)
    · refine v_sipush (pc := 23) (v := 1730) K dX12_back_23 rfl ?_
      refine v_iload_n (pc := 26) K dX12_back_26 1 rfl ?_
      refine v_imul (pc := 27) K dX12_back_27 ?_
      refine v_istore_n (pc := 28) (lv' := [(2, .int ((1730 : Int32) * x1)), (0, .ref (ly_o y 1000)), (1, .int x1)]) K dX12_back_28 2 rfl (by decide) rfl ?_
      refine v_aload_n (pc := 29) K dX12_back_29 1 rfl ?_
      refine v_aload_n (pc := 30) K dX12_back_30 1 rfl ?_
      refine gX12_images (pc := 31) K hy (by decide) jn_X12 (List.mem_cons_of_mem _ jl_X12_85) dX12_back_31 ?_
      refine v_iload_n (pc := 34) K dX12_back_34 0 rfl ?_
      refine iX12_images (pc := 35) K hy (by decide) hF dX12_back_35 (fun hi5 hF => ?_)
      refine pX12_people (pc := 36) K hy (by decide) jn_X12 (List.mem_cons_of_mem _ jl_X12_91) dX12_back_36 ?_
      refine v_nmM hF (fun M6 hF => ?_)
      refine v_aload_n (pc := 39) K dX12_back_39 1 rfl ?_
      refine v_aload_n (pc := 40) K dX12_back_40 1 rfl ?_
      refine gX12_images (pc := 41) K hy (by decide) jn_X12 (List.mem_cons_of_mem _ jl_X12_85) dX12_back_41 ?_
      refine v_iload_n (pc := 44) K dX12_back_44 0 rfl ?_
      refine v_iconst (pc := 45) (v := 1) K dX12_back_45 rfl ?_
      refine v_iadd (pc := 46) K dX12_back_46 ?_
      refine iX12_images (pc := 47) K hy (by decide) hF dX12_back_47 (fun hi7 hF => ?_)
      refine pX12_quarrels (pc := 48) K hy (by decide) jn_X12 (List.mem_cons_of_mem _ jl_X12_389) dX12_back_48 ?_
      refine v_nmM hF (fun M8 hF => ?_)
      refine v_iconst (pc := 51) (v := 0) K dX12_back_51 rfl ?_
      refine v_istore_n (pc := 52) (lv' := [(3, .int (0 : Int32)), (2, .int ((1730 : Int32) * x1)), (0, .ref (ly_o y 1000)), (1, .int x1)]) K dX12_back_52 3 rfl (by decide) rfl ?_
      refine v_sub [2, 1, 0] rfl ?_
      exact bX12_back_53 l K hy hQ q_F hF
    · refine v_iconst (pc := 21) (v := -1) K dX12_back_21 rfl ?_
      have hz := (Option.some.inj hF).symm
      subst hz
      exact v_iret (pc := 22) K hQ dX12_back_22
set_option maxRecDepth 100000 in
set_option maxHeartbeats 4000000 in
theorem kX12_back (l : Launch) {y : Ly} (hJ : ly_J y) (hy : y.2.2.2.2 = 1) {M M1 : QM} {r : Int32} {x1 : Int32} (hF : fX12_back M x1 = some (r, M1)) : Met l yX12_back wqX12_back rmX12_back (q_P y [.ref (ly_o y 1000), .int x1] M) (q_E y (some (.int r)) M1) 0 0 (ly_A y) :=
  q_met (by decide) rfl hJ rfl rfl rfl (fun x K hQ => bX12_back_0 l K hy (z := (r, M1)) hQ  hF)
-- ===== X12_count (I)I
theorem jd_X12_count : yX12_count.cls = RX12 ∧ yX12_count.cls ≠ "java/lang/invoke/MethodHandle" ∧ yX12_count.cls ≠ "java/lang/invoke/VarHandle" ∧ (parseMethodDescriptor yX12_count.desc).map (fun d => d.parameters.length) = some 1 := by decide +kernel
abbrev wqX12_count : List Cond := .code yX12_count cX12_count 4 (some .int) :: wsL_law
abbrev rmX12_count : Room := { frames := 1, cells := 0, slots := 0, locals := 21 }
def fX12_count_b26 (k4 : QM → Int32 → Int32 → Int32 → Option (Int32 × QM)) (M : QM) (x1 : Int32) (x3 : Int32) (s0 : Int32) (s1 : Int32) : Option (Int32 × QM) := (k4 M x1 (s1 + s0) (x3 + (1 : Int32)))
set_option maxRecDepth 100000 in
set_option maxHeartbeats 4000000 in
theorem bX12_count_26 {x : Cx} {y : Ly} (l : Launch) (K : VK x l rmX12_count y 4 cX12_count RX12 wqX12_count) (hy : y.2.2.2.2 = 1) {z : Int32 × QM} (hQ : VQ x y (some (.int z.1)) z.2 (some .int)) {k4 : QM → Int32 → Int32 → Int32 → Option (Int32 × QM)} (hk4 : ∀ {M : QM} {x1 : Int32} {x2 : Int32} {x3 : Int32}, k4 M x1 x2 x3 = some z → V x y 4 M 4 [(0, .ref (ly_o y 1000)), (1, .int x1), (2, .int x2), (3, .int x3)] []) {M : QM} {x1 : Int32} {x3 : Int32} {s0 : Int32} {s1 : Int32} (hF : fX12_count_b26 k4 M x1 x3 s0 s1 = some z) : V x y 4 M 26 [(0, .ref (ly_o y 1000)), (1, .int x1), (3, .int x3)] [.int s0, .int s1] := by
  unfold fX12_count_b26 at hF
  refine v_iadd (pc := 26) K dX12_count_26 ?_
  refine v_istore_n (pc := 27) (lv' := [(2, .int (s1 + s0)), (0, .ref (ly_o y 1000)), (1, .int x1), (3, .int x3)]) K dX12_count_27 2 rfl (by decide) rfl ?_
  refine v_iinc (pc := 28) (v1 := x3 + (1 : Int32)) (lv' := [(3, .int (x3 + (1 : Int32))), (2, .int (s1 + s0)), (0, .ref (ly_o y 1000)), (1, .int x1)]) K dX12_count_28 3 rfl rfl (by decide) rfl ?_
  refine v_goto (pc := 31) (tgt := 4) K dX12_count_31 (by decide) ?_
  refine v_sub [2, 3, 1, 0] rfl ?_
  exact hk4 hF
def fX12_count_b34 (M : QM) (x1 : Int32) (x2 : Int32) : Option (Int32 × QM) := if x1 = (0 : Int32) then some (q_i M 1000 0, M) else if x1 = (1 : Int32) then some (q_i M 1000 5, M) else if x1 = (2 : Int32) then some (q_i M 1000 42, M) else if x1 = (3 : Int32) then some (x2, M) else if x1 = (4 : Int32) then some (q_i M 1000 4, M) else some ((-1 : Int32), M)
set_option maxRecDepth 100000 in
set_option maxHeartbeats 4000000 in
theorem bX12_count_34 {x : Cx} {y : Ly} (l : Launch) (K : VK x l rmX12_count y 4 cX12_count RX12 wqX12_count) (hy : y.2.2.2.2 = 1) {z : Int32 × QM} (hQ : VQ x y (some (.int z.1)) z.2 (some .int)) {M : QM} {x1 : Int32} {x2 : Int32} (hF : fX12_count_b34 M x1 x2 = some z) : V x y 4 M 34 [(0, .ref (ly_o y 1000)), (1, .int x1), (2, .int x2)] [] := by
  unfold fX12_count_b34 at hF
  refine v_iload_n (pc := 34) K dX12_count_34 1 rfl ?_
  rcases q_iE hF with ⟨c6, hF⟩ | ⟨c6, hF⟩
  · refine v_tabE (pc := 35) (tgt := 68) (off := 33) K c6 dX12_count_35 (by decide) (by decide) (by decide +kernel) (by decide) ?_
    refine v_aload_n (pc := 68) K dX12_count_68 0 rfl ?_
    refine gX12_people (pc := 69) K hy (by decide) jn_X12 (List.mem_cons_of_mem _ jl_X12_91) dX12_count_69 ?_
    have hz := (Option.some.inj hF).symm
    subst hz
    exact v_iret (pc := 72) K hQ dX12_count_72
  rcases q_iE hF with ⟨c7, hF⟩ | ⟨c7, hF⟩
  · refine v_tabE (pc := 35) (tgt := 73) (off := 38) K c7 dX12_count_35 (by decide) (by decide) (by decide +kernel) (by decide) ?_
    refine v_aload_n (pc := 73) K dX12_count_73 0 rfl ?_
    refine gX12_codes (pc := 74) K hy (by decide) jn_X12 (List.mem_cons_of_mem _ jl_X12_280) dX12_count_74 ?_
    have hz := (Option.some.inj hF).symm
    subst hz
    exact v_iret (pc := 77) K hQ dX12_count_77
  rcases q_iE hF with ⟨c8, hF⟩ | ⟨c8, hF⟩
  · refine v_tabE (pc := 35) (tgt := 78) (off := 43) K c8 dX12_count_35 (by decide) (by decide) (by decide +kernel) (by decide) ?_
    refine v_aload_n (pc := 78) K dX12_count_78 0 rfl ?_
    refine gX12_quarrels (pc := 79) K hy (by decide) jn_X12 (List.mem_cons_of_mem _ jl_X12_389) dX12_count_79 ?_
    have hz := (Option.some.inj hF).symm
    subst hz
    exact v_iret (pc := 82) K hQ dX12_count_82
  rcases q_iE hF with ⟨c9, hF⟩ | ⟨c9, hF⟩
  · refine v_tabE (pc := 35) (tgt := 83) (off := 48) K c9 dX12_count_35 (by decide) (by decide) (by decide +kernel) (by decide) ?_
    refine v_iload_n (pc := 83) K dX12_count_83 2 rfl ?_
    have hz := (Option.some.inj hF).symm
    subst hz
    exact v_iret (pc := 84) K hQ dX12_count_84
  rcases q_iE hF with ⟨c10, hF⟩ | ⟨c10, hF⟩
  · refine v_tabE (pc := 35) (tgt := 85) (off := 50) K c10 dX12_count_35 (by decide) (by decide) (by decide +kernel) (by decide) ?_
    refine v_aload_n (pc := 85) K dX12_count_85 0 rfl ?_
    refine gX12_taped (pc := 86) K hy (by decide) jn_X12 (List.mem_cons_of_mem _ jl_X12_111) dX12_count_86 ?_
    have hz := (Option.some.inj hF).symm
    subst hz
    exact v_iret (pc := 89) K hQ dX12_count_89
  refine v_tabN (pc := 35) (tgt := 90) K dX12_count_35 (q_tn_0_4 c6 c7 c8 c9 c10) (by decide) ?_
  refine v_iconst (pc := 90) (v := -1) K dX12_count_90 rfl ?_
  have hz := (Option.some.inj hF).symm
  subst hz
  exact v_iret (pc := 91) K hQ dX12_count_91
def fX12_count_b4 : Nat → QM → Int32 → Int32 → Int32 → Option (Int32 × QM)
  | 0, _, _, _, _ => none
  | q + 1, M, x1, x2, x3 => if (q_i M 1000 42) ≤ x3 then (fX12_count_b34 M x1 x2) else (q_b (fX12_isOn M x3) fun r2 M3 => if r2 = (0 : Int32) then (fX12_count_b26 (fun M x1 x2 x3 => fX12_count_b4 q M x1 x2 x3) M3 x1 x3 (0 : Int32) x2) else (fX12_count_b26 (fun M x1 x2 x3 => fX12_count_b4 q M x1 x2 x3) M3 x1 x3 (1 : Int32) x2))
set_option maxRecDepth 100000 in
set_option maxHeartbeats 4000000 in
theorem bX12_count_4 {x : Cx} {y : Ly} (l : Launch) (K : VK x l rmX12_count y 4 cX12_count RX12 wqX12_count) (hy : y.2.2.2.2 = 1) {z : Int32 × QM} (hQ : VQ x y (some (.int z.1)) z.2 (some .int)) : ∀ (q : Nat) {M : QM} {x1 : Int32} {x2 : Int32} {x3 : Int32},  fX12_count_b4 q M x1 x2 x3 = some z → V x y 4 M 4 [(0, .ref (ly_o y 1000)), (1, .int x1), (2, .int x2), (3, .int x3)] [] := by
  intro q
  induction q with
  | zero =>
    intro M x1 x2 x3  hF
    rw [fX12_count_b4] at hF
    cases hF
  | succ q ih =>
    intro M x1 x2 x3  hF
    rw [fX12_count_b4] at hF
    refine v_iload_n (pc := 4) K dX12_count_4 3 rfl ?_
    refine v_aload_n (pc := 5) K dX12_count_5 0 rfl ?_
    refine gX12_quarrels (pc := 6) K hy (by decide) jn_X12 (List.mem_cons_of_mem _ jl_X12_389) dX12_count_6 ?_
    refine v_icmp_ge (pc := 9) (tgt := 34) K dX12_count_9 (by decide) hF (fun c5 hF => ?_) (fun c5 hF => ?_)
    · refine v_sub [0, 1, 2] rfl ?_
      exact bX12_count_34 l K hy hQ hF
    · refine v_iload_n (pc := 12) K dX12_count_12 2 rfl ?_
      refine v_aload_n (pc := 13) K dX12_count_13 0 rfl ?_
      refine v_iload_n (pc := 14) K dX12_count_14 3 rfl ?_
      obtain ⟨r2, M3, hc1, hF⟩ := q_bE hF
      refine v_callV (pc := 15) (ci := 11) (As := [.int x3]) (rest := [.int x2]) (st' := [.int r2, .int x2]) (r := some (.int r2)) (M1 := M3) K (kX12_isOn l K.2.2.2.2.2.2.1 hy hc1) (jg_V jl_X12_432 jw_i_X12_isOn jw_s_X12_isOn jw_n_X12 jw_c_X12_isOn) rfl rfl rfl jd_X12_isOn ⟨Nat.le_of_ble_eq_true rfl, Nat.le_of_ble_eq_true rfl⟩ rfl rfl (Nat.le_of_ble_eq_true rfl) (by decide) (okc_1 hy) rfl dX12_count_15 rfl ?_
      refine v_if_eq (pc := 18) (tgt := 25) K dX12_count_18 (by decide) hF (fun c4 hF => ?_) (fun c4 hF => ?_)
      · refine v_iconst (pc := 25) (v := 0) K dX12_count_25 rfl ?_
        refine v_sub [0, 1, 3] rfl ?_
        exact bX12_count_26 l K hy hQ ih hF
      · refine v_iconst (pc := 21) (v := 1) K dX12_count_21 rfl ?_
        refine v_goto (pc := 22) (tgt := 26) K dX12_count_22 (by decide) ?_
        refine v_sub [0, 1, 3] rfl ?_
        exact bX12_count_26 l K hy hQ ih hF
def fX12_count (M : QM) (x1 : Int32) : Option (Int32 × QM) := (fX12_count_b4 q_F M x1 (0 : Int32) (0 : Int32))
set_option maxRecDepth 100000 in
set_option maxHeartbeats 4000000 in
theorem bX12_count_0 {x : Cx} {y : Ly} (l : Launch) (K : VK x l rmX12_count y 4 cX12_count RX12 wqX12_count) (hy : y.2.2.2.2 = 1) {z : Int32 × QM} (hQ : VQ x y (some (.int z.1)) z.2 (some .int)) {M : QM} {x1 : Int32} (hF : fX12_count M x1 = some z) : V x y 4 M 0 [(0, .ref (ly_o y 1000)), (1, .int x1)] [] := by
  unfold fX12_count at hF
  refine v_iconst (pc := 0) (v := 0) K dX12_count_0 rfl ?_
  refine v_istore_n (pc := 1) (lv' := [(2, .int (0 : Int32)), (0, .ref (ly_o y 1000)), (1, .int x1)]) K dX12_count_1 2 rfl (by decide) rfl ?_
  refine v_iconst (pc := 2) (v := 0) K dX12_count_2 rfl ?_
  refine v_istore_n (pc := 3) (lv' := [(3, .int (0 : Int32)), (2, .int (0 : Int32)), (0, .ref (ly_o y 1000)), (1, .int x1)]) K dX12_count_3 3 rfl (by decide) rfl ?_
  refine v_sub [2, 3, 1, 0] rfl ?_
  exact bX12_count_4 l K hy hQ q_F hF
set_option maxRecDepth 100000 in
set_option maxHeartbeats 4000000 in
theorem kX12_count (l : Launch) {y : Ly} (hJ : ly_J y) (hy : y.2.2.2.2 = 1) {M M1 : QM} {r : Int32} {x1 : Int32} (hF : fX12_count M x1 = some (r, M1)) : Met l yX12_count wqX12_count rmX12_count (q_P y [.ref (ly_o y 1000), .int x1] M) (q_E y (some (.int r)) M1) 0 0 (ly_A y) :=
  q_met (by decide) rfl hJ rfl rfl rfl (fun x K hQ => bX12_count_0 l K hy (z := (r, M1)) hQ  hF)
