/-! Tokens.wordOf by hand: it goes over the signs of a String constant -/
theorem jd_X9_wordOf : yX9_wordOf.cls ≠ "java/lang/invoke/MethodHandle" ∧ yX9_wordOf.cls ≠ "java/lang/invoke/VarHandle" ∧ (parseMethodDescriptor yX9_wordOf.desc).map (fun d => d.parameters.length) = some 3 := by decide +kernel
abbrev rmX9_wordOf : Room := { frames := 8, cells := 0, slots := 0, locals := 400 }
abbrev wqX9_wordOf : List Cond := .code yX9_wordOf cX9_wordOf 7 (some .int) :: wsL_law
def fX9_wordOf_l (x1 x2 : Int32) : List Int32 → QM → Int32 → Int32 → Option (Int32 × QM)
  | [], M, _, _ => some (32, M)
  | c :: cs, M, w, a => if c ≠ (32 : Int32) then (if a < (0 : Int32) then fX9_wordOf_l x1 x2 cs M w a else (q_b (fX8_byteAt M (x1 + a)) fun r M1 => if r ≠ c then fX9_wordOf_l x1 x2 cs M1 w (-1 : Int32) else fX9_wordOf_l x1 x2 cs M1 w (a + (1 : Int32)))) else if a ≠ x2 - x1 then fX9_wordOf_l x1 x2 cs M (w + (1 : Int32)) (0 : Int32) else some (w, M)
def fX9_wordOf (M : QM) (x1 x2 : Int32) : Option (Int32 × QM) := fX9_wordOf_l x1 x2 q_bytes M (0 : Int32) (0 : Int32)
theorem q_bdrop (k : Nat) (h : k < 146) : q_bytes.drop k = q_bytes.getD k 0 :: q_bytes.drop (k + 1) := by
  have : ∀ k, k < 146 → q_bytes.drop k = q_bytes.getD k 0 :: q_bytes.drop (k + 1) := by decide +kernel
  exact this k h
set_option maxRecDepth 100000 in
set_option maxHeartbeats 4000000 in
theorem bX9_wordOf_81 {x : Cx} {y : Ly} (l : Launch) (K : VK x l rmX9_wordOf y 7 cX9_wordOf RX9 wqX9_wordOf) (hy : y.2.2.2.2 = 0) {z : Int32 × QM} {x1 x2 : Int32} {cs : List Int32} {k : Nat} (hk : k < 146)
    (ih : ∀ {M : QM} {w a : Int32}, fX9_wordOf_l x1 x2 cs M w a = some z → V x y 7 M 8 [(0, .ref (ly_o y 1)), (1, .int x1), (2, .int x2), (3, .int w), (4, .int a), (5, .int (nI (k + 1)))] []) {M : QM} {w a : Int32} (hF : fX9_wordOf_l x1 x2 cs M w a = some z) :
    V x y 7 M 81 [(0, .ref (ly_o y 1)), (1, .int x1), (2, .int x2), (3, .int w), (4, .int a), (5, .int (nI k))] [] := by
  refine v_iinc (pc := 81) (v1 := nI (k + 1)) (lv' := [(5, .int (nI (k + 1))), (0, .ref (ly_o y 1)), (1, .int x1), (2, .int x2), (3, .int w), (4, .int a)]) K dX9_wordOf_81 5 rfl (nI_succ k).symm (by decide) rfl ?_
  refine v_goto (pc := 84) (tgt := 8) K dX9_wordOf_84 (by decide) ?_
  refine v_sub [1, 2, 3, 4, 5, 0] rfl ?_
  exact ih hF
set_option maxRecDepth 100000 in
set_option maxHeartbeats 4000000 in
theorem bX9_wordOf_79 {x : Cx} {y : Ly} (l : Launch) (K : VK x l rmX9_wordOf y 7 cX9_wordOf RX9 wqX9_wordOf) (hy : y.2.2.2.2 = 0) {z : Int32 × QM} {x1 x2 : Int32} {cs : List Int32} {k : Nat} (hk : k < 146)
    (ih : ∀ {M : QM} {w a : Int32}, fX9_wordOf_l x1 x2 cs M w a = some z → V x y 7 M 8 [(0, .ref (ly_o y 1)), (1, .int x1), (2, .int x2), (3, .int w), (4, .int a), (5, .int (nI (k + 1)))] []) {M : QM} {w a a1 : Int32} (hF : fX9_wordOf_l x1 x2 cs M w a = some z) :
    V x y 7 M 79 [(0, .ref (ly_o y 1)), (1, .int x1), (2, .int x2), (3, .int w), (4, .int a1), (5, .int (nI k))] [.int a] := by
  refine v_istore (pc := 79) (lv' := [(4, .int a), (0, .ref (ly_o y 1)), (1, .int x1), (2, .int x2), (3, .int w), (5, .int (nI k))]) K 4 dX9_wordOf_79 (by decide) rfl ?_
  refine v_sub [1, 2, 3, 4, 0, 5] rfl ?_
  exact bX9_wordOf_81 l K hy hk ih hF
set_option maxRecDepth 100000 in
set_option maxHeartbeats 4000000 in
theorem bX9_wordOf_8 {x : Cx} {y : Ly} (l : Launch) (K : VK x l rmX9_wordOf y 7 cX9_wordOf RX9 wqX9_wordOf) (hy : y.2.2.2.2 = 0) {z : Int32 × QM} (hQ : VQ x y (some (.int z.1)) z.2 (some .int)) {x1 x2 : Int32} : ∀ (q k : Nat), k + q = 146 → ∀ {M : QM} {w a : Int32}, fX9_wordOf_l x1 x2 (q_bytes.drop k) M w a = some z → V x y 7 M 8 [(0, .ref (ly_o y 1)), (1, .int x1), (2, .int x2), (3, .int w), (4, .int a), (5, .int (nI k))] [] := by
  intro q
  induction q with
  | zero =>
    intro k hk M w a hF
    have hk : k = 146 := hk
    subst hk
    have hF : some ((32 : Int32), M) = some z := hF
    refine v_iload (pc := 8) K dX9_wordOf_8 5 rfl ?_
    refine v_ldcS (pc := 10) K dX9_wordOf_10 ?_
    refine v_callK (pc := 12) (As := []) (rest := [.int (nI 146)]) (st' := [.int 146, .int (nI 146)]) (r := some (.int 146)) (M1 := M) K (kJ0_length l K.2.2.2.2.2.2.1) (jg_V jl_X9_65 jw_i_J0_length_8abf5 jw_s_J0_length_8abf5 jw_n_J0 jw_c_J0_length_8abf5) rfl rfl rfl (by decide +kernel) ⟨Nat.le_of_ble_eq_true rfl, Nat.le_of_ble_eq_true rfl⟩ rfl rfl (Nat.le_of_ble_eq_true rfl) dX9_wordOf_12 rfl ?_
    refine v_icmpT_ge (pc := 15) (tgt := 87) K dX9_wordOf_15 (by decide) (by decide) ?_
    refine v_bipush (pc := 87) (v := 32) K dX9_wordOf_87 rfl ?_
    have hz := (Option.some.inj hF).symm
    subst hz
    exact v_iret (pc := 89) K hQ dX9_wordOf_89
  | succ q ih =>
    intro k hkq M w a hF
    have hk : k < 146 := by omega
    have ih : ∀ {M : QM} {w a : Int32}, fX9_wordOf_l x1 x2 (q_bytes.drop (k + 1)) M w a = some z → V x y 7 M 8 [(0, .ref (ly_o y 1)), (1, .int x1), (2, .int x2), (3, .int w), (4, .int a), (5, .int (nI (k + 1)))] [] := fun h => ih (k + 1) (by omega) h
    rw [q_bdrop k hk, fX9_wordOf_l] at hF
    refine v_iload (pc := 8) K dX9_wordOf_8 5 rfl ?_
    refine v_ldcS (pc := 10) K dX9_wordOf_10 ?_
    refine v_callK (pc := 12) (As := []) (rest := [.int (nI k)]) (st' := [.int 146, .int (nI k)]) (r := some (.int 146)) (M1 := M) K (kJ0_length l K.2.2.2.2.2.2.1) (jg_V jl_X9_65 jw_i_J0_length_8abf5 jw_s_J0_length_8abf5 jw_n_J0 jw_c_J0_length_8abf5) rfl rfl rfl (by decide +kernel) ⟨Nat.le_of_ble_eq_true rfl, Nat.le_of_ble_eq_true rfl⟩ rfl rfl (Nat.le_of_ble_eq_true rfl) dX9_wordOf_12 rfl ?_
    refine v_icmpF_ge (pc := 15) (tgt := 87) K dX9_wordOf_15 (by decide) (nI_ge (a := k) (b := 146) hk (by decide)) ?_
    refine v_ldcS (pc := 18) K dX9_wordOf_18 ?_
    refine v_iload (pc := 20) K dX9_wordOf_20 5 rfl ?_
    refine v_callK (pc := 22) (As := [.int (nI k)]) (rest := []) (st' := [.int (q_bytes.getD k 0)]) (r := some (.int (q_bytes.getD k 0))) (M1 := M) K (kJ0_charAt l K.2.2.2.2.2.2.1 hk) (jg_V jl_X9_70 jw_i_J0_charAt_5068e jw_s_J0_charAt_5068e jw_n_J0 jw_c_J0_charAt_5068e) rfl rfl rfl jd_J0_charAt ⟨Nat.le_of_ble_eq_true rfl, Nat.le_of_ble_eq_true rfl⟩ rfl rfl (Nat.le_of_ble_eq_true rfl) dX9_wordOf_22 rfl ?_
    generalize q_bytes.getD k 0 = sg at hF ⊢
    refine v_istore (pc := 25) (lv' := [(6, .int sg), (0, .ref (ly_o y 1)), (1, .int x1), (2, .int x2), (3, .int w), (4, .int a), (5, .int (nI k))]) K 6 dX9_wordOf_25 (by decide) rfl ?_
    refine v_iload (pc := 27) K dX9_wordOf_27 0 rfl ?_
    refine v_bipush (pc := 29) (v := 32) K dX9_wordOf_29 rfl ?_
    refine v_icmp_ne (pc := 31) (tgt := 53) K dX9_wordOf_31 (by decide) hF (fun c1 hF => ?_) (fun c1 hF => ?_)
    · refine v_iload (pc := 53) K dX9_wordOf_53 5 rfl ?_
      refine v_if_lt (pc := 55) (tgt := 81) K dX9_wordOf_55 (by decide) hF (fun c2 hF => ?_) (fun c2 hF => ?_)
      · refine v_sub [1, 2, 3, 4, 5, 6] rfl ?_
        exact bX9_wordOf_81 l K hy hk ih hF
      · refine v_aload_n (pc := 58) K dX9_wordOf_58 1 rfl ?_
        refine v_iload_n (pc := 59) K dX9_wordOf_59 2 rfl ?_
        refine v_iload (pc := 60) K dX9_wordOf_60 5 rfl ?_
        refine v_iadd (pc := 62) K dX9_wordOf_62 ?_
        obtain ⟨r, M1, hc, hF⟩ := q_bE hF
        refine v_callV (pc := 63) (ci := 7) (As := [.int (x1 + a)]) (rest := []) (st' := [.int r]) (r := some (.int r)) (M1 := M1) K (kX8_byteAt l K.2.2.2.2.2.2.1 hy hc) (jg_V jl_X9_30 jw_i_X8_byteAt jw_s_X8_byteAt jw_n_X8 jw_c_X8_byteAt) rfl rfl rfl jd_X8_byteAt ⟨Nat.le_of_ble_eq_true rfl, Nat.le_of_ble_eq_true rfl⟩ rfl rfl (Nat.le_of_ble_eq_true rfl) (by decide) (okc_0 hy (by decide)) rfl dX9_wordOf_63 rfl ?_
        refine v_iload (pc := 66) K dX9_wordOf_66 0 rfl ?_
        refine v_icmp_ne (pc := 68) (tgt := 78) K dX9_wordOf_68 (by decide) hF (fun c3 hF => ?_) (fun c3 hF => ?_)
        · refine v_iconst (pc := 78) (v := -1) K dX9_wordOf_78 rfl ?_
          refine v_sub [1, 2, 3, 4, 5, 6] rfl ?_
          exact bX9_wordOf_79 l K hy hk ih hF
        · refine v_iload (pc := 71) K dX9_wordOf_71 5 rfl ?_
          refine v_iconst (pc := 73) (v := 1) K dX9_wordOf_73 rfl ?_
          refine v_iadd (pc := 74) K dX9_wordOf_74 ?_
          refine v_goto (pc := 75) (tgt := 79) K dX9_wordOf_75 (by decide) ?_
          refine v_sub [1, 2, 3, 4, 5, 6] rfl ?_
          exact bX9_wordOf_79 l K hy hk ih hF
    · refine v_iload (pc := 34) K dX9_wordOf_34 5 rfl ?_
      refine v_iload_n (pc := 36) K dX9_wordOf_36 3 rfl ?_
      refine v_iload_n (pc := 37) K dX9_wordOf_37 2 rfl ?_
      refine v_isub (pc := 38) K dX9_wordOf_38 ?_
      refine v_icmp_ne (pc := 39) (tgt := 44) K dX9_wordOf_39 (by decide) hF (fun c2 hF => ?_) (fun c2 hF => ?_)
      · refine v_iinc (pc := 44) (v1 := w + (1 : Int32)) (lv' := [(3, .int (w + (1 : Int32))), (6, .int sg), (0, .ref (ly_o y 1)), (1, .int x1), (2, .int x2), (4, .int a), (5, .int (nI k))]) K dX9_wordOf_44 4 rfl rfl (by decide) rfl ?_
        refine v_iconst (pc := 47) (v := 0) K dX9_wordOf_47 rfl ?_
        refine v_istore (pc := 48) (lv' := [(4, .int (0 : Int32)), (3, .int (w + (1 : Int32))), (6, .int sg), (0, .ref (ly_o y 1)), (1, .int x1), (2, .int x2), (5, .int (nI k))]) K 4 dX9_wordOf_48 (by decide) rfl ?_
        refine v_goto (pc := 50) (tgt := 81) K dX9_wordOf_50 (by decide) ?_
        refine v_sub [3, 4, 5, 1, 0, 6] rfl ?_
        exact bX9_wordOf_81 l K hy hk ih hF
      · refine v_iload_n (pc := 42) K dX9_wordOf_42 4 rfl ?_
        have hz := (Option.some.inj hF).symm
        subst hz
        exact v_iret (pc := 43) K hQ dX9_wordOf_43
set_option maxRecDepth 100000 in
set_option maxHeartbeats 4000000 in
theorem kX9_wordOf (l : Launch) {y : Ly} (hJ : ly_J y) (hy : y.2.2.2.2 = 0) {M M1 : QM} {r : Int32} {x1 x2 : Int32} (hF : fX9_wordOf M x1 x2 = some (r, M1)) : Met l yX9_wordOf wqX9_wordOf rmX9_wordOf (q_P y [.ref (ly_o y 1), .int x1, .int x2] M) (q_E y (some (.int r)) M1) 0 0 (ly_A y) := by
  refine q_met (by decide) rfl hJ rfl rfl rfl (fun x K hQ => ?_)
  refine v_iconst (pc := 0) (v := 0) K dX9_wordOf_0 rfl ?_
  refine v_istore_n (pc := 1) (lv' := [(3, .int (0 : Int32)), (0, .ref (ly_o y 1)), (1, .int x1), (2, .int x2)]) K dX9_wordOf_1 3 rfl (by decide) rfl ?_
  refine v_iconst (pc := 2) (v := 0) K dX9_wordOf_2 rfl ?_
  refine v_istore (pc := 3) (lv' := [(4, .int (0 : Int32)), (3, .int (0 : Int32)), (0, .ref (ly_o y 1)), (1, .int x1), (2, .int x2)]) K 4 dX9_wordOf_3 (by decide) rfl ?_
  refine v_iconst (pc := 5) (v := 0) K dX9_wordOf_5 rfl ?_
  refine v_istore (pc := 6) (lv' := [(5, .int (0 : Int32)), (4, .int (0 : Int32)), (3, .int (0 : Int32)), (0, .ref (ly_o y 1)), (1, .int x1), (2, .int x2)]) K 5 dX9_wordOf_6 (by decide) rfl ?_
  refine v_sub [3, 4, 5, 2, 1, 0] rfl ?_
  exact bX9_wordOf_8 l K hy (z := (r, M1)) hQ 146 0 rfl hF
